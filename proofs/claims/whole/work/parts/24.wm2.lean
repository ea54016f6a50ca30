/-! Methods of the reference: walks. -/
set_option maxRecDepth 100000 in
theorem b_Mo_isScope {fo : Option Nat} {d : Nat} (hd : 2 ≤ d + 1) {o : q_O} {σ' : q_H} (v0 : Nat) (v1 : Int32) (v2 : Int32) (σ : q_H) : q_J (fun (r : Int32) (σ1 : q_H) => o = .inl (some (.int r)) ∧ σ' = σ1) (f_Mo_isScope v0 v1 v2 σ) (q_G (q_rf fo) d m_Mo_isScope o σ' 0 [some (.ref v0), some (.int v1), some (.int v2)] [] σ) := by
  unfold f_Mo_isScope
  refine q_J.step (fun g => j_iload_n rfl rfl (g)) ?_
  refine J_ite (fun h1 => ?_) (fun h1 => ?_)
  · exact J_some (fun h => j_if_t rfl (cc_eq_t h1) (j_iconst (1 : Int32) rfl k32_1 (j_goto rfl (j_iret rfl (q_zr (Or.inr rfl)) h))))
  refine q_J.step (fun g => j_if_f rfl (cc_eq_f h1) (j_iload_n rfl rfl (j_iconst (1 : Int32) rfl k32_1 (g)))) ?_
  refine J_ite (fun h2 => ?_) (fun h2 => ?_)
  · refine J_cl fun x4 σ3 hσ3 => ?_
    refine q_J.step (fun g => j_icmp_f rfl (cc_ne_f h2) (j_iload_n rfl rfl (j_iconst (0 : Int32) rfl k32_0 (j_iconst (5 : Int32) rfl k32_5 (j_s1 [.int v2, .int (0 : Int32), .int (5 : Int32)] [] rfl rfl rfl rfl rfl (t_Mo_within (by omega) hσ3) (g)))))) ?_
    refine J_ite (fun h5 => ?_) (fun h5 => ?_)
    · refine q_J.step (fun g => j_if_f rfl (cc_ne_f h5) (j_iload_n rfl rfl (j_iconst (2 : Int32) rfl k32_2 (g)))) ?_
      refine J_ite (fun h6 => ?_) (fun h6 => ?_)
      · refine J_cl fun x8 σ7 hσ7 => ?_
        refine q_J.step (fun g => j_icmp_f rfl (cc_ne_f h6) (j_iload_n rfl rfl (j_iconst (0 : Int32) rfl k32_0 (j_bipush (7 : Int32) rfl kb_7 (j_s1 [.int v2, .int (0 : Int32), .int (7 : Int32)] [] rfl rfl rfl rfl rfl (t_Mo_within (by omega) hσ7) (g)))))) ?_
        refine J_ite (fun h9 => ?_) (fun h9 => ?_)
        · refine q_J.step (fun g => j_if_f rfl (cc_ne_f h9) (j_iload_n rfl rfl (j_iconst (3 : Int32) rfl k32_3 (g)))) ?_
          refine J_ite (fun h10 => ?_) (fun h10 => ?_)
          · refine J_cl fun x12 σ11 hσ11 => ?_
            refine q_J.step (fun g => j_icmp_f rfl (cc_ne_f h10) (j_iload_n rfl rfl (j_iconst (0 : Int32) rfl k32_0 (j_iconst (1 : Int32) rfl k32_1 (j_s1 [.int v2, .int (0 : Int32), .int (1 : Int32)] [] rfl rfl rfl rfl rfl (t_Mo_within (by omega) hσ11) (g)))))) ?_
            refine J_ite (fun h13 => ?_) (fun h13 => ?_)
            · exact J_some (fun h => j_if_t rfl (cc_eq_t h13) (j_iconst (0 : Int32) rfl k32_0 (j_iret rfl (q_zr (Or.inl rfl)) h)))
            exact J_some (fun h => j_if_f rfl (cc_eq_f h13) (j_iconst (1 : Int32) rfl k32_1 (j_goto rfl (j_iret rfl (q_zr (Or.inr rfl)) h))))
          exact J_some (fun h => j_icmp_t rfl (cc_ne_t h10) (j_iconst (0 : Int32) rfl k32_0 (j_iret rfl (q_zr (Or.inl rfl)) h)))
        exact J_some (fun h => j_if_t rfl (cc_ne_t h9) (j_iconst (1 : Int32) rfl k32_1 (j_goto rfl (j_iret rfl (q_zr (Or.inr rfl)) h))))
      refine q_J.step (fun g => j_icmp_t rfl (cc_ne_t h6) (j_iload_n rfl rfl (j_iconst (3 : Int32) rfl k32_3 (g)))) ?_
      refine J_ite (fun h14 => ?_) (fun h14 => ?_)
      · refine J_cl fun x16 σ15 hσ15 => ?_
        refine q_J.step (fun g => j_icmp_f rfl (cc_ne_f h14) (j_iload_n rfl rfl (j_iconst (0 : Int32) rfl k32_0 (j_iconst (1 : Int32) rfl k32_1 (j_s1 [.int v2, .int (0 : Int32), .int (1 : Int32)] [] rfl rfl rfl rfl rfl (t_Mo_within (by omega) hσ15) (g)))))) ?_
        refine J_ite (fun h17 => ?_) (fun h17 => ?_)
        · exact J_some (fun h => j_if_t rfl (cc_eq_t h17) (j_iconst (0 : Int32) rfl k32_0 (j_iret rfl (q_zr (Or.inl rfl)) h)))
        exact J_some (fun h => j_if_f rfl (cc_eq_f h17) (j_iconst (1 : Int32) rfl k32_1 (j_goto rfl (j_iret rfl (q_zr (Or.inr rfl)) h))))
      exact J_some (fun h => j_icmp_t rfl (cc_ne_t h14) (j_iconst (0 : Int32) rfl k32_0 (j_iret rfl (q_zr (Or.inl rfl)) h)))
    exact J_some (fun h => j_if_t rfl (cc_ne_t h5) (j_iconst (1 : Int32) rfl k32_1 (j_goto rfl (j_iret rfl (q_zr (Or.inr rfl)) h))))
  refine q_J.step (fun g => j_icmp_t rfl (cc_ne_t h2) (j_iload_n rfl rfl (j_iconst (2 : Int32) rfl k32_2 (g)))) ?_
  refine J_ite (fun h18 => ?_) (fun h18 => ?_)
  · refine J_cl fun x20 σ19 hσ19 => ?_
    refine q_J.step (fun g => j_icmp_f rfl (cc_ne_f h18) (j_iload_n rfl rfl (j_iconst (0 : Int32) rfl k32_0 (j_bipush (7 : Int32) rfl kb_7 (j_s1 [.int v2, .int (0 : Int32), .int (7 : Int32)] [] rfl rfl rfl rfl rfl (t_Mo_within (by omega) hσ19) (g)))))) ?_
    refine J_ite (fun h21 => ?_) (fun h21 => ?_)
    · refine q_J.step (fun g => j_if_f rfl (cc_ne_f h21) (j_iload_n rfl rfl (j_iconst (3 : Int32) rfl k32_3 (g)))) ?_
      refine J_ite (fun h22 => ?_) (fun h22 => ?_)
      · refine J_cl fun x24 σ23 hσ23 => ?_
        refine q_J.step (fun g => j_icmp_f rfl (cc_ne_f h22) (j_iload_n rfl rfl (j_iconst (0 : Int32) rfl k32_0 (j_iconst (1 : Int32) rfl k32_1 (j_s1 [.int v2, .int (0 : Int32), .int (1 : Int32)] [] rfl rfl rfl rfl rfl (t_Mo_within (by omega) hσ23) (g)))))) ?_
        refine J_ite (fun h25 => ?_) (fun h25 => ?_)
        · exact J_some (fun h => j_if_t rfl (cc_eq_t h25) (j_iconst (0 : Int32) rfl k32_0 (j_iret rfl (q_zr (Or.inl rfl)) h)))
        exact J_some (fun h => j_if_f rfl (cc_eq_f h25) (j_iconst (1 : Int32) rfl k32_1 (j_goto rfl (j_iret rfl (q_zr (Or.inr rfl)) h))))
      exact J_some (fun h => j_icmp_t rfl (cc_ne_t h22) (j_iconst (0 : Int32) rfl k32_0 (j_iret rfl (q_zr (Or.inl rfl)) h)))
    exact J_some (fun h => j_if_t rfl (cc_ne_t h21) (j_iconst (1 : Int32) rfl k32_1 (j_goto rfl (j_iret rfl (q_zr (Or.inr rfl)) h))))
  refine q_J.step (fun g => j_icmp_t rfl (cc_ne_t h18) (j_iload_n rfl rfl (j_iconst (3 : Int32) rfl k32_3 (g)))) ?_
  refine J_ite (fun h26 => ?_) (fun h26 => ?_)
  · refine J_cl fun x28 σ27 hσ27 => ?_
    refine q_J.step (fun g => j_icmp_f rfl (cc_ne_f h26) (j_iload_n rfl rfl (j_iconst (0 : Int32) rfl k32_0 (j_iconst (1 : Int32) rfl k32_1 (j_s1 [.int v2, .int (0 : Int32), .int (1 : Int32)] [] rfl rfl rfl rfl rfl (t_Mo_within (by omega) hσ27) (g)))))) ?_
    refine J_ite (fun h29 => ?_) (fun h29 => ?_)
    · exact J_some (fun h => j_if_t rfl (cc_eq_t h29) (j_iconst (0 : Int32) rfl k32_0 (j_iret rfl (q_zr (Or.inl rfl)) h)))
    exact J_some (fun h => j_if_f rfl (cc_eq_f h29) (j_iconst (1 : Int32) rfl k32_1 (j_goto rfl (j_iret rfl (q_zr (Or.inr rfl)) h))))
  exact J_some (fun h => j_icmp_t rfl (cc_ne_t h26) (j_iconst (0 : Int32) rfl k32_0 (j_iret rfl (q_zr (Or.inl rfl)) h)))
theorem t_Mo_isScope {fo : Option Nat} {d : Nat} (hd : 2 ≤ d) {v0 : Nat} {v1 : Int32} {v2 : Int32} {σ σ1 : q_H} {r : Int32} (h : f_Mo_isScope v0 v1 v2 σ = some (r, σ1)) : q_Rel (q_rf fo) q_Ms d 204 [.ref v0, .int v1, .int v2] σ (.inl (some (.int r))) σ1 := by
  obtain ⟨d, rfl⟩ : ∃ d1, d = d1 + 1 := ⟨d - 1, by omega⟩
  exact q_Rel.of rfl rfl (b_Mo_isScope hd _ _ _ σ _ _ h ⟨rfl, rfl⟩)

set_option maxRecDepth 100000 in
theorem l_Mo_others_L9 {fo : Option Nat} {d : Nat} (hd : 2 ≤ d + 1) {o : q_O} {σ' : q_H} {E : (Int32) → q_H → Prop} (v0 : Nat) (v1 : Int32) (v2 : Int32) (v3 : Int32) (v4 : Int32) (hX : ∀ (t : Int32) σ1, E (t) σ1 → q_G (q_rf fo) d m_Mo_others o σ' 76 [none, none, none, none, none, some (.int t), none] [] σ1)  : ∀ (n : Nat) (v5 : Int32) (v6 : Int32) (σ : q_H), q_J E (f_Mo_others_L9 v0 v1 v2 v3 v4 n v5 v6 σ) (q_G (q_rf fo) d m_Mo_others o σ' 9 [some (.ref v0), some (.int v1), some (.int v2), some (.int v3), some (.int v4), some (.int v5), some (.int v6)] [] σ)
  | 0, v5, v6, σ => J_none
  | n + 1, v5, v6, σ => by
    unfold f_Mo_others_L9
    refine J_bind fun x1 hx1 => ?_
    refine J_bind fun x2 hx2 => ?_
    refine q_J.step (fun g => j_iload rfl rfl (j_bipush (12 : Int32) rfl kb_12 (j_iload_n rfl rfl (j_imul rfl (j_aload_n rfl rfl (j_gfr rfl hx1 (j_iload_n rfl rfl (j_ial rfl hx2 (j_iadd rfl (g)))))))))) ?_
    refine J_ite (fun h3 => ?_) (fun h3 => ?_)
    · refine q_J.step (fun g => j_icmp_f rfl (cc_ge_f h3) (j_iload rfl rfl (j_iload rfl rfl (j_iload_n rfl rfl (g))))) ?_
      refine J_ite (fun h4 => ?_) (fun h4 => ?_)
      · exact q_J.step (fun g => j_icmp_t rfl (cc_eq_t h4) (j_iconst (0 : Int32) rfl k32_0 (j_iadd rfl (j_istore [some (.ref v0), some (.int v1), some (.int v2), some (.int v3), some (.int v4), some (.int (v5 + (0 : Int32))), some (.int v6)] rfl rfl (Or.inr rfl) rfl (j_iinc [some (.ref v0), some (.int v1), some (.int v2), some (.int v3), some (.int v4), some (.int (v5 + (0 : Int32))), some (.int (v6 + (1 : Int32)))] (v6 + (1 : Int32)) rfl rfl (by rw [k32_1]) (Or.inr rfl) rfl (j_goto rfl (g))))))) (l_Mo_others_L9 hd v0 v1 v2 v3 v4 hX n (v5 + (0 : Int32)) (v6 + (1 : Int32)) σ)
      refine q_J.step (fun g => j_icmp_f rfl (cc_eq_f h4) (j_iload rfl rfl (j_iload rfl rfl (g)))) ?_
      refine J_ite (fun h5 => ?_) (fun h5 => ?_)
      · exact q_J.step (fun g => j_icmp_t rfl (cc_eq_t h5) (j_iconst (0 : Int32) rfl k32_0 (j_iadd rfl (j_istore [some (.ref v0), some (.int v1), some (.int v2), some (.int v3), some (.int v4), some (.int (v5 + (0 : Int32))), some (.int v6)] rfl rfl (Or.inr rfl) rfl (j_iinc [some (.ref v0), some (.int v1), some (.int v2), some (.int v3), some (.int v4), some (.int (v5 + (0 : Int32))), some (.int (v6 + (1 : Int32)))] (v6 + (1 : Int32)) rfl rfl (by rw [k32_1]) (Or.inr rfl) rfl (j_goto rfl (g))))))) (l_Mo_others_L9 hd v0 v1 v2 v3 v4 hX n (v5 + (0 : Int32)) (v6 + (1 : Int32)) σ)
      refine J_bind fun x6 hx6 => ?_
      refine J_bind fun x7 hx7 => ?_
      refine q_J.step (fun g => j_icmp_f rfl (cc_eq_f h5) (j_aload_n rfl rfl (j_gfr rfl hx6 (j_iload rfl rfl (j_ial rfl hx7 (j_iload_n rfl rfl (g))))))) ?_
      refine J_ite (fun h8 => ?_) (fun h8 => ?_)
      · refine J_bind fun w9 hw9 => ?_
        refine J_cl fun x11 σ10 hσ10 => ?_
        refine q_J.step (fun g => j_icmp_f rfl (cc_ne_f h8) (j_aload_n rfl rfl (j_iload rfl rfl (j_iload_n rfl rfl (j_v1 [.ref v0, .int v6, .int v2] [.int v5] rfl rfl rfl rfl rfl rfl hw9 (Or.inl rfl) (t_Mo_kinOf (by omega) hσ10) (j_iconst (2 : Int32) rfl k32_2 (g))))))) ?_
        refine J_ite (fun h12 => ?_) (fun h12 => ?_)
        · exact q_J.step (fun g => j_icmp_f rfl (cc_ne_f h12) (j_iconst (1 : Int32) rfl k32_1 (j_goto rfl (j_iadd rfl (j_istore [some (.ref v0), some (.int v1), some (.int v2), some (.int v3), some (.int v4), some (.int (v5 + (1 : Int32))), some (.int v6)] rfl rfl (Or.inr rfl) rfl (j_iinc [some (.ref v0), some (.int v1), some (.int v2), some (.int v3), some (.int v4), some (.int (v5 + (1 : Int32))), some (.int (v6 + (1 : Int32)))] (v6 + (1 : Int32)) rfl rfl (by rw [k32_1]) (Or.inr rfl) rfl (j_goto rfl (g)))))))) (l_Mo_others_L9 hd v0 v1 v2 v3 v4 hX n (v5 + (1 : Int32)) (v6 + (1 : Int32)) σ10)
        exact q_J.step (fun g => j_icmp_t rfl (cc_ne_t h12) (j_iconst (0 : Int32) rfl k32_0 (j_iadd rfl (j_istore [some (.ref v0), some (.int v1), some (.int v2), some (.int v3), some (.int v4), some (.int (v5 + (0 : Int32))), some (.int v6)] rfl rfl (Or.inr rfl) rfl (j_iinc [some (.ref v0), some (.int v1), some (.int v2), some (.int v3), some (.int v4), some (.int (v5 + (0 : Int32))), some (.int (v6 + (1 : Int32)))] (v6 + (1 : Int32)) rfl rfl (by rw [k32_1]) (Or.inr rfl) rfl (j_goto rfl (g))))))) (l_Mo_others_L9 hd v0 v1 v2 v3 v4 hX n (v5 + (0 : Int32)) (v6 + (1 : Int32)) σ10)
      exact q_J.step (fun g => j_icmp_t rfl (cc_ne_t h8) (j_iconst (0 : Int32) rfl k32_0 (j_iadd rfl (j_istore [some (.ref v0), some (.int v1), some (.int v2), some (.int v3), some (.int v4), some (.int (v5 + (0 : Int32))), some (.int v6)] rfl rfl (Or.inr rfl) rfl (j_iinc [some (.ref v0), some (.int v1), some (.int v2), some (.int v3), some (.int v4), some (.int (v5 + (0 : Int32))), some (.int (v6 + (1 : Int32)))] (v6 + (1 : Int32)) rfl rfl (by rw [k32_1]) (Or.inr rfl) rfl (j_goto rfl (g))))))) (l_Mo_others_L9 hd v0 v1 v2 v3 v4 hX n (v5 + (0 : Int32)) (v6 + (1 : Int32)) σ)
    exact J_some (fun h => j_icmp_t rfl (cc_ge_t h3) (j_weak (l := [none, none, none, none, none, some (.int v5), none]) (And.intro (Or.inl rfl) (And.intro (Or.inl rfl) (And.intro (Or.inl rfl) (And.intro (Or.inl rfl) (And.intro (Or.inl rfl) (And.intro (Or.inr rfl) (And.intro (Or.inl rfl) True.intro))))))) (hX _ _ h)))

set_option maxRecDepth 100000 in
theorem b_Mo_others {fo : Option Nat} {d : Nat} (hd : 2 ≤ d + 1) {o : q_O} {σ' : q_H} (v0 : Nat) (v1 : Int32) (v2 : Int32) (v3 : Int32) (v4 : Int32) (σ : q_H) : q_J (fun (r : Int32) (σ1 : q_H) => o = .inl (some (.int r)) ∧ σ' = σ1) (f_Mo_others v0 v1 v2 v3 v4 σ) (q_G (q_rf fo) d m_Mo_others o σ' 0 [some (.ref v0), some (.int v1), some (.int v2), some (.int v3), some (.int v4), none, none] [] σ) := by
  unfold f_Mo_others
  refine J_sq (fun (t1 : Int32) (σ2 : q_H) => q_G (q_rf fo) d m_Mo_others o σ' 76 [none, none, none, none, none, some (.int t1), none] [] σ2) (q_J.step (fun g => j_iconst (0 : Int32) rfl k32_0 (j_istore [some (.ref v0), some (.int v1), some (.int v2), some (.int v3), some (.int v4), some (.int (0 : Int32)), none] rfl rfl (Or.inr rfl) rfl (j_bipush (12 : Int32) rfl kb_12 (j_iload_n rfl rfl (j_imul rfl (j_istore [some (.ref v0), some (.int v1), some (.int v2), some (.int v3), some (.int v4), some (.int (0 : Int32)), some (.int ((12 : Int32) * v1))] rfl rfl (Or.inr rfl) rfl (g))))))) (l_Mo_others_L9 hd v0 v1 v2 v3 v4 (fun _ _ h => h) q_FU (0 : Int32) ((12 : Int32) * v1) σ)) (fun t1 σ2 => ?_)
  exact J_some (fun h => j_iload rfl rfl (j_iret rfl rfl h))
theorem t_Mo_others {fo : Option Nat} {d : Nat} (hd : 2 ≤ d) {v0 : Nat} {v1 : Int32} {v2 : Int32} {v3 : Int32} {v4 : Int32} {σ σ1 : q_H} {r : Int32} (h : f_Mo_others v0 v1 v2 v3 v4 σ = some (r, σ1)) : q_Rel (q_rf fo) q_Ms d 208 [.ref v0, .int v1, .int v2, .int v3, .int v4] σ (.inl (some (.int r))) σ1 := by
  obtain ⟨d, rfl⟩ : ∃ d1, d = d1 + 1 := ⟨d - 1, by omega⟩
  exact q_Rel.of rfl rfl (b_Mo_others hd _ _ _ _ _ σ _ _ h ⟨rfl, rfl⟩)

set_option maxRecDepth 100000 in
theorem b_Mo_firstBorn {fo : Option Nat} {d : Nat} (hd : 2 ≤ d + 1) {o : q_O} {σ' : q_H} (v0 : Nat) (v1 : Int32) (v2 : Int32) (σ : q_H) : q_J (fun (r : Int32) (σ1 : q_H) => o = .inl (some (.int r)) ∧ σ' = σ1) (f_Mo_firstBorn v0 v1 v2 σ) (q_G (q_rf fo) d m_Mo_firstBorn o σ' 0 [some (.ref v0), some (.int v1), some (.int v2)] [] σ) := by
  unfold f_Mo_firstBorn
  refine J_bind fun x1 hx1 => ?_
  refine J_bind fun x2 hx2 => ?_
  refine J_bind fun x3 hx3 => ?_
  refine J_bind fun x4 hx4 => ?_
  refine J_bind fun x5 hx5 => ?_
  refine J_bind fun x6 hx6 => ?_
  refine J_cl fun x8 σ7 hσ7 => ?_
  exact J_some (fun h => j_bipush (14 : Int32) rfl kb_14 (j_aload_n rfl rfl (j_gfr rfl hx1 (j_iload_n rfl rfl (j_ial rfl hx2 (j_imul rfl (j_aload_n rfl rfl (j_gfr rfl hx3 (j_bipush (12 : Int32) rfl kb_12 (j_iload_n rfl rfl (j_imul rfl (j_iload_n rfl rfl (j_iadd rfl (j_ial rfl hx4 (j_isub rfl (j_aload_n rfl rfl (j_gfr rfl hx5 (j_bipush (12 : Int32) rfl kb_12 (j_iload_n rfl rfl (j_imul rfl (j_iload_n rfl rfl (j_iadd rfl (j_ial rfl hx6 (j_s1 [.int x6] [.int (((14 : Int32) * x2) - x4)] rfl rfl rfl rfl rfl (t_Mo_wide (by omega) hσ7) (j_iconst (2 : Int32) rfl k32_2 (j_idiv rfl (by decide) (j_isub rfl (j_iret rfl rfl h))))))))))))))))))))))))))))
theorem t_Mo_firstBorn {fo : Option Nat} {d : Nat} (hd : 2 ≤ d) {v0 : Nat} {v1 : Int32} {v2 : Int32} {σ σ1 : q_H} {r : Int32} (h : f_Mo_firstBorn v0 v1 v2 σ = some (r, σ1)) : q_Rel (q_rf fo) q_Ms d 222 [.ref v0, .int v1, .int v2] σ (.inl (some (.int r))) σ1 := by
  obtain ⟨d, rfl⟩ : ∃ d1, d = d1 + 1 := ⟨d - 1, by omega⟩
  exact q_Rel.of rfl rfl (b_Mo_firstBorn hd _ _ _ σ _ _ h ⟨rfl, rfl⟩)

set_option maxRecDepth 100000 in
theorem b_Mo_lastBorn {fo : Option Nat} {d : Nat} (hd : 2 ≤ d + 1) {o : q_O} {σ' : q_H} (v0 : Nat) (v1 : Int32) (v2 : Int32) (σ : q_H) : q_J (fun (r : Int32) (σ1 : q_H) => o = .inl (some (.int r)) ∧ σ' = σ1) (f_Mo_lastBorn v0 v1 v2 σ) (q_G (q_rf fo) d m_Mo_lastBorn o σ' 0 [some (.ref v0), some (.int v1), some (.int v2)] [] σ) := by
  unfold f_Mo_lastBorn
  refine J_bind fun x1 hx1 => ?_
  refine J_bind fun x2 hx2 => ?_
  refine J_bind fun x3 hx3 => ?_
  refine J_bind fun x4 hx4 => ?_
  refine J_bind fun x5 hx5 => ?_
  refine J_bind fun x6 hx6 => ?_
  refine J_cl fun x8 σ7 hσ7 => ?_
  exact J_some (fun h => j_bipush (14 : Int32) rfl kb_14 (j_aload_n rfl rfl (j_gfr rfl hx1 (j_iload_n rfl rfl (j_ial rfl hx2 (j_imul rfl (j_aload_n rfl rfl (j_gfr rfl hx3 (j_bipush (12 : Int32) rfl kb_12 (j_iload_n rfl rfl (j_imul rfl (j_iload_n rfl rfl (j_iadd rfl (j_ial rfl hx4 (j_isub rfl (j_aload_n rfl rfl (j_gfr rfl hx5 (j_bipush (12 : Int32) rfl kb_12 (j_iload_n rfl rfl (j_imul rfl (j_iload_n rfl rfl (j_iadd rfl (j_ial rfl hx6 (j_s1 [.int x6] [.int (((14 : Int32) * x2) - x4)] rfl rfl rfl rfl rfl (t_Mo_wide (by omega) hσ7) (j_iconst (2 : Int32) rfl k32_2 (j_idiv rfl (by decide) (j_iadd rfl (j_iret rfl rfl h))))))))))))))))))))))))))))
theorem t_Mo_lastBorn {fo : Option Nat} {d : Nat} (hd : 2 ≤ d) {v0 : Nat} {v1 : Int32} {v2 : Int32} {σ σ1 : q_H} {r : Int32} (h : f_Mo_lastBorn v0 v1 v2 σ = some (r, σ1)) : q_Rel (q_rf fo) q_Ms d 223 [.ref v0, .int v1, .int v2] σ (.inl (some (.int r))) σ1 := by
  obtain ⟨d, rfl⟩ : ∃ d1, d = d1 + 1 := ⟨d - 1, by omega⟩
  exact q_Rel.of rfl rfl (b_Mo_lastBorn hd _ _ _ σ _ _ h ⟨rfl, rfl⟩)

set_option maxRecDepth 100000 in
theorem b_Mo_table {fo : Option Nat} {d : Nat} (hd : 2 ≤ d + 1) {o : q_O} {σ' : q_H} (v0 : Nat) (v1 : Int32) (v2 : Int32) (v3 : Int32) (σ : q_H) : q_J (fun (r : Int32) (σ1 : q_H) => o = .inl (some (.int r)) ∧ σ' = σ1) (f_Mo_table v0 v1 v2 v3 σ) (q_G (q_rf fo) d m_Mo_table o σ' 0 [some (.ref v0), some (.int v1), some (.int v2), some (.int v3)] [] σ) := by
  unfold f_Mo_table
  refine J_bind fun σ1 hσ1 => ?_
  refine J_cl fun x3 σ2 hσ2 => ?_
  refine q_J.step (fun g => j_aload_n rfl rfl (j_iconst (0 : Int32) rfl k32_0 (j_putf rfl rfl rfl rfl hσ1 (j_iload_n rfl rfl (j_s1 [.int v1] [] rfl rfl rfl rfl rfl (t_Mo_isTable (by omega) hσ2) (g)))))) ?_
  refine J_ite (fun h4 => ?_) (fun h4 => ?_)
  · exact J_some (fun h => j_if_t rfl (cc_eq_t h4) (j_iconst (0 : Int32) rfl k32_0 (j_iret rfl (q_zr (Or.inl rfl)) h)))
  refine J_cl fun x6 σ5 hσ5 => ?_
  refine q_J.step (fun g => j_if_f rfl (cc_eq_f h4) (j_iload_n rfl rfl (j_iconst (0 : Int32) rfl k32_0 (j_bipush (16 : Int32) rfl kb_16 (j_s1 [.int v2, .int (0 : Int32), .int (16 : Int32)] [] rfl rfl rfl rfl rfl (t_Mo_within (by omega) hσ5) (g)))))) ?_
  refine J_ite (fun h7 => ?_) (fun h7 => ?_)
  · exact J_some (fun h => j_if_t rfl (cc_eq_t h7) (j_iconst (0 : Int32) rfl k32_0 (j_iret rfl (q_zr (Or.inl rfl)) h)))
  refine J_cl fun x9 σ8 hσ8 => ?_
  refine q_J.step (fun g => j_if_f rfl (cc_eq_f h7) (j_iload_n rfl rfl (j_iconst (0 : Int32) rfl k32_0 (j_sipush (1000 : Int32) rfl ks_1000 (j_s1 [.int v3, .int (0 : Int32), .int (1000 : Int32)] [] rfl rfl rfl rfl rfl (t_Mo_within (by omega) hσ8) (g)))))) ?_
  refine J_ite (fun h10 => ?_) (fun h10 => ?_)
  · exact J_some (fun h => j_if_f rfl (cc_ne_f h10) (j_iconst (0 : Int32) rfl k32_0 (j_iret rfl (q_zr (Or.inl rfl)) h)))
  refine J_bind fun x11 hx11 => ?_
  refine J_bind fun σ12 hσ12 => ?_
  exact J_some (fun h => j_if_t rfl (cc_ne_t h10) (j_aload_n rfl rfl (j_gfr rfl hx11 (j_bipush (17 : Int32) rfl kb_17 (j_iload_n rfl rfl (j_imul rfl (j_iload_n rfl rfl (j_iadd rfl (j_iload_n rfl rfl (j_ias rfl hσ12 (j_iconst (1 : Int32) rfl k32_1 (j_iret rfl (q_zr (Or.inr rfl)) h))))))))))))
theorem t_Mo_table {fo : Option Nat} {d : Nat} (hd : 2 ≤ d) {v0 : Nat} {v1 : Int32} {v2 : Int32} {v3 : Int32} {σ σ1 : q_H} {r : Int32} (h : f_Mo_table v0 v1 v2 v3 σ = some (r, σ1)) : q_Rel (q_rf fo) q_Ms d 233 [.ref v0, .int v1, .int v2, .int v3] σ (.inl (some (.int r))) σ1 := by
  obtain ⟨d, rfl⟩ : ∃ d1, d = d1 + 1 := ⟨d - 1, by omega⟩
  exact q_Rel.of rfl rfl (b_Mo_table hd _ _ _ _ σ _ _ h ⟨rfl, rfl⟩)

set_option maxRecDepth 100000 in
theorem b_Mo_at {fo : Option Nat} {d : Nat} (hd : 2 ≤ d + 1) {o : q_O} {σ' : q_H} (v0 : Nat) (v1 : Int32) (v2 : Int32) (σ : q_H) : q_J (fun (r : Int32) (σ1 : q_H) => o = .inl (some (.int r)) ∧ σ' = σ1) (f_Mo_at v0 v1 v2 σ) (q_G (q_rf fo) d m_Mo_at o σ' 0 [some (.ref v0), some (.int v1), some (.int v2)] [] σ) := by
  unfold f_Mo_at
  refine J_bind fun σ1 hσ1 => ?_
  refine J_cl fun x3 σ2 hσ2 => ?_
  refine q_J.step (fun g => j_aload_n rfl rfl (j_iconst (0 : Int32) rfl k32_0 (j_putf rfl rfl rfl rfl hσ1 (j_iload_n rfl rfl (j_s1 [.int v1] [] rfl rfl rfl rfl rfl (t_Mo_isTable (by omega) hσ2) (g)))))) ?_
  refine J_ite (fun h4 => ?_) (fun h4 => ?_)
  · exact J_some (fun h => j_if_t rfl (cc_eq_t h4) (j_iconst (-1 : Int32) rfl k32_m1 (j_iret rfl rfl h)))
  refine J_cl fun x6 σ5 hσ5 => ?_
  refine q_J.step (fun g => j_if_f rfl (cc_eq_f h4) (j_iload_n rfl rfl (j_iconst (0 : Int32) rfl k32_0 (j_sipush (200 : Int32) rfl ks_200 (j_s1 [.int v2, .int (0 : Int32), .int (200 : Int32)] [] rfl rfl rfl rfl rfl (t_Mo_within (by omega) hσ5) (g)))))) ?_
  refine J_ite (fun h7 => ?_) (fun h7 => ?_)
  · exact J_some (fun h => j_if_t rfl (cc_eq_t h7) (j_iconst (-1 : Int32) rfl k32_m1 (j_iret rfl rfl h)))
  refine J_bind fun w8 hw8 => ?_
  refine J_cl fun x10 σ9 hσ9 => ?_
  exact J_some (fun h => j_if_f rfl (cc_eq_f h7) (j_aload_n rfl rfl (j_iload_n rfl rfl (j_iload_n rfl rfl (j_v1 [.ref v0, .int v1, .int v2] [] rfl rfl rfl rfl rfl rfl hw8 (Or.inl rfl) (t_Mo_atAge (by omega) hσ9) (j_goto rfl (j_iret rfl rfl h)))))))
theorem t_Mo_at {fo : Option Nat} {d : Nat} (hd : 2 ≤ d) {v0 : Nat} {v1 : Int32} {v2 : Int32} {σ σ1 : q_H} {r : Int32} (h : f_Mo_at v0 v1 v2 σ = some (r, σ1)) : q_Rel (q_rf fo) q_Ms d 235 [.ref v0, .int v1, .int v2] σ (.inl (some (.int r))) σ1 := by
  obtain ⟨d, rfl⟩ : ∃ d1, d = d1 + 1 := ⟨d - 1, by omega⟩
  exact q_Rel.of rfl rfl (b_Mo_at hd _ _ _ σ _ _ h ⟨rfl, rfl⟩)

set_option maxRecDepth 100000 in
theorem l_Mo_life_L39 {fo : Option Nat} {d : Nat} (hd : 2 ≤ d + 1) {o : q_O} {σ' : q_H} {E : (Int32) → q_H → Prop} (v0 : Nat) (v1 : Int32) (v2 : Int32) (v3 : Int32) (hX : ∀ (t : Int32) σ1, E (t) σ1 → q_G (q_rf fo) d m_Mo_life o σ' 65 [none, none, none, some (.int v3), some (.int t), none] [] σ1)  : ∀ (n : Nat) (v4 : Int32) (v5 : Int32) (σ : q_H), q_J E (f_Mo_life_L39 v0 v1 v2 v3 n v4 v5 σ) (q_G (q_rf fo) d m_Mo_life o σ' 39 [some (.ref v0), some (.int v1), some (.int v2), some (.int v3), some (.int v4), some (.int v5)] [] σ)
  | 0, v4, v5, σ => J_none
  | n + 1, v4, v5, σ => by
    unfold f_Mo_life_L39
    refine q_J.step (fun g => j_iload rfl rfl (j_iload_n rfl rfl (g))) ?_
    refine J_ite (fun h1 => ?_) (fun h1 => ?_)
    · refine J_bind fun w2 hw2 => ?_
      refine J_cl fun x4 σ3 hσ3 => ?_
      exact q_J.step (fun g => j_icmp_f rfl (cc_ge_f h1) (j_iload rfl rfl (j_iconst (5 : Int32) rfl k32_5 (j_aload_n rfl rfl (j_iload_n rfl rfl (j_iload rfl rfl (j_v1 [.ref v0, .int v1, .int v5] [.int (5 : Int32), .int v4] rfl rfl rfl rfl rfl rfl hw2 (Or.inl rfl) (t_Mo_living (by omega) hσ3) (j_imul rfl (j_iadd rfl (j_istore [some (.ref v0), some (.int v1), some (.int v2), some (.int v3), some (.int (v4 + ((5 : Int32) * x4))), some (.int v5)] rfl rfl (Or.inr rfl) rfl (j_iinc [some (.ref v0), some (.int v1), some (.int v2), some (.int v3), some (.int (v4 + ((5 : Int32) * x4))), some (.int (v5 + (1 : Int32)))] (v5 + (1 : Int32)) rfl rfl (by rw [k32_1]) (Or.inr rfl) rfl (j_goto rfl (g))))))))))))) (l_Mo_life_L39 hd v0 v1 v2 v3 hX n (v4 + ((5 : Int32) * x4)) (v5 + (1 : Int32)) σ3)
    exact J_some (fun h => j_icmp_t rfl (cc_ge_t h1) (j_weak (l := [none, none, none, some (.int v3), some (.int v4), none]) (And.intro (Or.inl rfl) (And.intro (Or.inl rfl) (And.intro (Or.inl rfl) (And.intro (Or.inr rfl) (And.intro (Or.inr rfl) (And.intro (Or.inl rfl) True.intro)))))) (hX _ _ h)))

set_option maxRecDepth 100000 in
theorem b_Mo_life {fo : Option Nat} {d : Nat} (hd : 2 ≤ d + 1) {o : q_O} {σ' : q_H} (v0 : Nat) (v1 : Int32) (v2 : Int32) (v3 : Int32) (σ : q_H) : q_J (fun (r : Int32) (σ1 : q_H) => o = .inl (some (.int r)) ∧ σ' = σ1) (f_Mo_life v0 v1 v2 v3 σ) (q_G (q_rf fo) d m_Mo_life o σ' 0 [some (.ref v0), some (.int v1), some (.int v2), some (.int v3), none, none] [] σ) := by
  unfold f_Mo_life
  refine J_bind fun σ1 hσ1 => ?_
  refine J_cl fun x3 σ2 hσ2 => ?_
  refine q_J.step (fun g => j_aload_n rfl rfl (j_iconst (0 : Int32) rfl k32_0 (j_putf rfl rfl rfl rfl hσ1 (j_iload_n rfl rfl (j_s1 [.int v1] [] rfl rfl rfl rfl rfl (t_Mo_isTable (by omega) hσ2) (g)))))) ?_
  refine J_ite (fun h4 => ?_) (fun h4 => ?_)
  · exact J_some (fun h => j_if_t rfl (cc_eq_t h4) (j_iconst (-1 : Int32) rfl k32_m1 (j_iret rfl rfl h)))
  refine J_cl fun x6 σ5 hσ5 => ?_
  refine q_J.step (fun g => j_if_f rfl (cc_eq_f h4) (j_iload_n rfl rfl (j_iconst (0 : Int32) rfl k32_0 (j_bipush (17 : Int32) rfl kb_17 (j_s1 [.int v2, .int (0 : Int32), .int (17 : Int32)] [] rfl rfl rfl rfl rfl (t_Mo_within (by omega) hσ5) (g)))))) ?_
  refine J_ite (fun h7 => ?_) (fun h7 => ?_)
  · exact J_some (fun h => j_if_t rfl (cc_eq_t h7) (j_iconst (-1 : Int32) rfl k32_m1 (j_iret rfl rfl h)))
  refine J_cl fun x9 σ8 hσ8 => ?_
  refine q_J.step (fun g => j_if_f rfl (cc_eq_f h7) (j_iload_n rfl rfl (j_iconst (0 : Int32) rfl k32_0 (j_iconst (1 : Int32) rfl k32_1 (j_s1 [.int v3, .int (0 : Int32), .int (1 : Int32)] [] rfl rfl rfl rfl rfl (t_Mo_within (by omega) hσ8) (g)))))) ?_
  refine J_ite (fun h10 => ?_) (fun h10 => ?_)
  · exact J_some (fun h => j_if_f rfl (cc_ne_f h10) (j_iconst (-1 : Int32) rfl k32_m1 (j_iret rfl rfl h)))
  refine J_sq (fun (t11 : Int32) (σ12 : q_H) => q_G (q_rf fo) d m_Mo_life o σ' 65 [none, none, none, some (.int v3), some (.int t11), none] [] σ12) (q_J.step (fun g => j_if_t rfl (cc_ne_t h10) (j_iconst (0 : Int32) rfl k32_0 (j_istore [some (.ref v0), some (.int v1), some (.int v2), some (.int v3), some (.int (0 : Int32)), none] rfl rfl (Or.inr rfl) rfl (j_iconst (0 : Int32) rfl k32_0 (j_istore [some (.ref v0), some (.int v1), some (.int v2), some (.int v3), some (.int (0 : Int32)), some (.int (0 : Int32))] rfl rfl (Or.inr rfl) rfl (g)))))) (l_Mo_life_L39 hd v0 v1 v2 v3 (fun _ _ h => h) q_FU (0 : Int32) (0 : Int32) σ8)) (fun t11 σ12 => ?_)
  refine J_cl fun x14 σ13 hσ13 => ?_
  exact J_some (fun h => j_iload rfl rfl (j_i2l rfl (j_ldc2 (2000 : Int64) rfl kw_2000 (j_iload_n rfl rfl (j_s1 [.long t11.toInt64, .long (2000 : Int64), .int v3] [] rfl rfl rfl rfl rfl (t_Mo_lowest (by omega) hσ13) (j_l2i rfl (j_iret rfl rfl h)))))))
theorem t_Mo_life {fo : Option Nat} {d : Nat} (hd : 2 ≤ d) {v0 : Nat} {v1 : Int32} {v2 : Int32} {v3 : Int32} {σ σ1 : q_H} {r : Int32} (h : f_Mo_life v0 v1 v2 v3 σ = some (r, σ1)) : q_Rel (q_rf fo) q_Ms d 241 [.ref v0, .int v1, .int v2, .int v3] σ (.inl (some (.int r))) σ1 := by
  obtain ⟨d, rfl⟩ : ∃ d1, d = d1 + 1 := ⟨d - 1, by omega⟩
  exact q_Rel.of rfl rfl (b_Mo_life hd _ _ _ _ σ _ _ h ⟨rfl, rfl⟩)

set_option maxRecDepth 100000 in
theorem b_Mo_gap {fo : Option Nat} {d : Nat} (hd : 2 ≤ d + 1) {o : q_O} {σ' : q_H} (v0 : Nat) (v1 : Int32) (σ : q_H) : q_J (fun (r : Int32) (σ1 : q_H) => o = .inl (some (.int r)) ∧ σ' = σ1) (f_Mo_gap v0 v1 σ) (q_G (q_rf fo) d m_Mo_gap o σ' 0 [some (.ref v0), some (.int v1)] [] σ) := by
  unfold f_Mo_gap
  refine J_bind fun σ1 hσ1 => ?_
  refine J_cl fun x3 σ2 hσ2 => ?_
  refine q_J.step (fun g => j_aload_n rfl rfl (j_iconst (0 : Int32) rfl k32_0 (j_putf rfl rfl rfl rfl hσ1 (j_iload_n rfl rfl (j_bipush (-30 : Int32) rfl kb_m30 (j_bipush (30 : Int32) rfl kb_30 (j_s1 [.int v1, .int (-30 : Int32), .int (30 : Int32)] [] rfl rfl rfl rfl rfl (t_Mo_within (by omega) hσ2) (g)))))))) ?_
  refine J_ite (fun h4 => ?_) (fun h4 => ?_)
  · exact J_some (fun h => j_if_t rfl (cc_eq_t h4) (j_iconst (-1 : Int32) rfl k32_m1 (j_iret rfl rfl h)))
  refine J_bind fun x5 hx5 => ?_
  refine q_J.step (fun g => j_if_f rfl (cc_eq_f h4) (j_aload_n rfl rfl (j_gfi rfl hx5 (j_iconst (4 : Int32) rfl k32_4 (g))))) ?_
  refine J_ite (fun h6 => ?_) (fun h6 => ?_)
  · exact J_some (fun h => j_icmp_f rfl (cc_ne_f h6) (j_iconst (-1 : Int32) rfl k32_m1 (j_iret rfl rfl h)))
  refine J_bind fun x7 hx7 => ?_
  refine J_bind fun x8 hx8 => ?_
  refine J_bind fun σ9 hσ9 => ?_
  refine J_bind fun x10 hx10 => ?_
  refine J_bind fun σ11 hσ11 => ?_
  refine J_bind fun x12 hx12 => ?_
  exact J_some (fun h => j_icmp_t rfl (cc_ne_t h6) (j_aload_n rfl rfl (j_gfr rfl hx7 (j_aload_n rfl rfl (j_gfi rfl hx8 (j_iload_n rfl rfl (j_ias rfl hσ9 (j_aload_n rfl rfl (j_dup rfl rfl (j_gfi rfl hx10 (j_iconst (1 : Int32) rfl k32_1 (j_iadd rfl (j_putf rfl rfl rfl rfl hσ11 (j_aload_n rfl rfl (j_gfi rfl hx12 (j_iret rfl rfl h))))))))))))))))
theorem t_Mo_gap {fo : Option Nat} {d : Nat} (hd : 2 ≤ d) {v0 : Nat} {v1 : Int32} {σ σ1 : q_H} {r : Int32} (h : f_Mo_gap v0 v1 σ = some (r, σ1)) : q_Rel (q_rf fo) q_Ms d 242 [.ref v0, .int v1] σ (.inl (some (.int r))) σ1 := by
  obtain ⟨d, rfl⟩ : ∃ d1, d = d1 + 1 := ⟨d - 1, by omega⟩
  exact q_Rel.of rfl rfl (b_Mo_gap hd _ _ σ _ _ h ⟨rfl, rfl⟩)

set_option maxRecDepth 100000 in
theorem l_Mo_couldOf_L11 {fo : Option Nat} {d : Nat} (hd : 2 ≤ d + 1) {o : q_O} {σ' : q_H} {E : (Int64) → q_H → Prop} (v0 : Nat) (v1 : Int32) (v2 : Int32) (v3 : Int32) (hX : ∀ (t : Int64) σ1, E (t) σ1 → q_G (q_rf fo) d m_Mo_couldOf o σ' 93 [some (.ref v0), none, none, none, some (.long t), none, none] [] σ1)  : ∀ (n : Nat) (v4 : Int64) (v6 : Int32) (σ : q_H), q_J E (f_Mo_couldOf_L11 v0 v1 v2 v3 n v4 v6 σ) (q_G (q_rf fo) d m_Mo_couldOf o σ' 11 [some (.ref v0), some (.int v1), some (.int v2), some (.int v3), some (.long v4), none, some (.int v6)] [] σ)
  | 0, v4, v6, σ => J_none
  | n + 1, v4, v6, σ => by
    unfold f_Mo_couldOf_L11
    refine J_bind fun x1 hx1 => ?_
    refine q_J.step (fun g => j_iload rfl rfl (j_aload_n rfl rfl (j_gfi rfl hx1 (g)))) ?_
    refine J_ite (fun h2 => ?_) (fun h2 => ?_)
    · refine J_bind fun x3 hx3 => ?_
      refine J_bind fun x4 hx4 => ?_
      refine J_cl fun x6 σ5 hσ5 => ?_
      refine q_J.step (fun g => j_icmp_f rfl (cc_ge_f h2) (j_aload_n rfl rfl (j_gfr rfl hx3 (j_iload rfl rfl (j_ial rfl hx4 (j_iload_n rfl rfl (j_ineg rfl (j_iload_n rfl rfl (j_s1 [.int x4, .int (-v3), .int v3] [] rfl rfl rfl rfl rfl (t_Mo_within (by omega) hσ5) (g)))))))))) ?_
      refine J_ite (fun h7 => ?_) (fun h7 => ?_)
      · exact q_J.step (fun g => j_if_t rfl (cc_eq_t h7) (j_iinc [some (.ref v0), some (.int v1), some (.int v2), some (.int v3), some (.long v4), none, some (.int (v6 + (1 : Int32)))] (v6 + (1 : Int32)) rfl rfl (by rw [k32_1]) (Or.inr True.intro) rfl (j_goto rfl (g)))) (l_Mo_couldOf_L11 hd v0 v1 v2 v3 hX n v4 (v6 + (1 : Int32)) σ5)
      refine J_bind fun x8 hx8 => ?_
      refine J_bind fun x9 hx9 => ?_
      refine q_J.step (fun g => j_if_f rfl (cc_eq_f h7) (j_iload_n rfl rfl (j_aload_n rfl rfl (j_gfr rfl hx8 (j_iload rfl rfl (j_ial rfl hx9 (j_iadd rfl (g)))))))) ?_
      refine J_ite (fun h10 => ?_) (fun h10 => ?_)
      · exact q_J.step (fun g => j_if_f rfl (cc_ge_f h10) (j_goto rfl (j_iinc [some (.ref v0), some (.int v1), some (.int v2), some (.int v3), some (.long v4), none, some (.int (v6 + (1 : Int32)))] (v6 + (1 : Int32)) rfl rfl (by rw [k32_1]) (Or.inr True.intro) rfl (j_goto rfl (g))))) (l_Mo_couldOf_L11 hd v0 v1 v2 v3 hX n v4 (v6 + (1 : Int32)) σ5)
      refine J_bind fun x11 hx11 => ?_
      refine J_bind fun x12 hx12 => ?_
      refine J_bind fun w13 hw13 => ?_
      refine J_cl fun x15 σ14 hσ14 => ?_
      refine J_bind fun x16 hx16 => ?_
      refine J_bind fun σ17 hσ17 => ?_
      exact q_J.step (fun g => j_if_t rfl (cc_ge_t h10) (j_lload rfl rfl (j_ldc2 (10000 : Int64) rfl kw_10000 (j_aload_n rfl rfl (j_iload_n rfl rfl (j_iload_n rfl rfl (j_aload_n rfl rfl (j_gfr rfl hx11 (j_iload rfl rfl (j_ial rfl hx12 (j_iadd rfl (j_v1 [.ref v0, .int v1, .int (v2 + x12)] [.long (10000 : Int64), .long v4] rfl rfl rfl rfl rfl rfl hw13 (Or.inl rfl) (t_Mo_atAge (by omega) hσ14) (j_i2l rfl (j_lsub rfl (j_lmul rfl (j_lstore [some (.ref v0), some (.int v1), some (.int v2), some (.int v3), some (.long (v4 * ((10000 : Int64) - x15.toInt64))), none, some (.int v6)] rfl rfl (Or.inr rfl) rfl (j_aload_n rfl rfl (j_dup rfl rfl (j_gfl rfl hx16 (j_ldc2 (10000 : Int64) rfl kw_10000 (j_lmul rfl (j_putf rfl rfl rfl rfl hσ17 (j_iinc [some (.ref v0), some (.int v1), some (.int v2), some (.int v3), some (.long (v4 * ((10000 : Int64) - x15.toInt64))), none, some (.int (v6 + (1 : Int32)))] (v6 + (1 : Int32)) rfl rfl (by rw [k32_1]) (Or.inr True.intro) rfl (j_goto rfl (g))))))))))))))))))))))))) (l_Mo_couldOf_L11 hd v0 v1 v2 v3 hX n (v4 * ((10000 : Int64) - x15.toInt64)) (v6 + (1 : Int32)) σ17)
    exact J_some (fun h => j_icmp_t rfl (cc_ge_t h2) (j_weak (l := [some (.ref v0), none, none, none, some (.long v4), none, none]) (And.intro (Or.inr rfl) (And.intro (Or.inl rfl) (And.intro (Or.inl rfl) (And.intro (Or.inl rfl) (And.intro (Or.inr rfl) (And.intro (Or.inr rfl) (And.intro (Or.inl rfl) True.intro))))))) (hX _ _ h)))

set_option maxRecDepth 100000 in
theorem b_Mo_couldOf {fo : Option Nat} {d : Nat} (hd : 2 ≤ d + 1) {o : q_O} {σ' : q_H} (v0 : Nat) (v1 : Int32) (v2 : Int32) (v3 : Int32) (σ : q_H) : q_J (fun (r : Int64) (σ1 : q_H) => o = .inl (some (.long r)) ∧ σ' = σ1) (f_Mo_couldOf v0 v1 v2 v3 σ) (q_G (q_rf fo) d m_Mo_couldOf o σ' 0 [some (.ref v0), some (.int v1), some (.int v2), some (.int v3), none, none, none] [] σ) := by
  unfold f_Mo_couldOf
  refine J_bind fun σ1 hσ1 => ?_
  refine J_sq (fun (t2 : Int64) (σ3 : q_H) => q_G (q_rf fo) d m_Mo_couldOf o σ' 93 [some (.ref v0), none, none, none, some (.long t2), none, none] [] σ3) (q_J.step (fun g => j_lconst (1 : Int64) rfl kl_1 (j_lstore [some (.ref v0), some (.int v1), some (.int v2), some (.int v3), some (.long (1 : Int64)), none, none] rfl rfl (Or.inr rfl) rfl (j_aload_n rfl rfl (j_lconst (1 : Int64) rfl kl_1 (j_putf rfl rfl rfl rfl hσ1 (j_iconst (0 : Int32) rfl k32_0 (j_istore [some (.ref v0), some (.int v1), some (.int v2), some (.int v3), some (.long (1 : Int64)), none, some (.int (0 : Int32))] rfl rfl (Or.inr True.intro) rfl (g)))))))) (l_Mo_couldOf_L11 hd v0 v1 v2 v3 (fun _ _ h => h) q_FU (1 : Int64) (0 : Int32) σ1)) (fun t2 σ3 => ?_)
  refine J_bind fun x4 hx4 => ?_
  exact J_some (fun h => j_aload_n rfl rfl (j_gfl rfl hx4 (j_lload rfl rfl (j_lsub rfl (j_lret rfl rfl h)))))
theorem t_Mo_couldOf {fo : Option Nat} {d : Nat} (hd : 2 ≤ d) {v0 : Nat} {v1 : Int32} {v2 : Int32} {v3 : Int32} {σ σ1 : q_H} {r : Int64} (h : f_Mo_couldOf v0 v1 v2 v3 σ = some (r, σ1)) : q_Rel (q_rf fo) q_Ms d 244 [.ref v0, .int v1, .int v2, .int v3] σ (.inl (some (.long r))) σ1 := by
  obtain ⟨d, rfl⟩ : ∃ d1, d = d1 + 1 := ⟨d - 1, by omega⟩
  exact q_Rel.of rfl rfl (b_Mo_couldOf hd _ _ _ _ σ _ _ h ⟨rfl, rfl⟩)

set_option maxRecDepth 100000 in
theorem b_Mo_tests {fo : Option Nat} {d : Nat} (hd : 2 ≤ d + 1) {o : q_O} {σ' : q_H} (v0 : Nat) (v1 : Int32) (σ : q_H) : q_J (fun (r : Unit) (σ1 : q_H) => o = .inl none ∧ σ' = σ1) (f_Mo_tests v0 v1 σ) (q_G (q_rf fo) d m_Mo_tests o σ' 0 [some (.ref v0), some (.int v1), none] [] σ) := by
  unfold f_Mo_tests
  refine J_bind fun w1 hw1 => ?_
  refine J_cl fun _ σ2 hσ2 => ?_
  refine J_bind fun x4 hx4 => ?_
  refine J_bind fun x5 hx5 => ?_
  refine J_bind fun x6 hx6 => ?_
  refine J_bind fun x7 hx7 => ?_
  refine q_J.step (fun g => j_aload_n rfl rfl (j_iload_n rfl rfl (j_v0 [.ref v0, .int v1] [] rfl rfl rfl rfl rfl rfl hw1 (Or.inl rfl) (t_Mo_sums (by omega) hσ2) (j_aload_n rfl rfl (j_gfr rfl hx4 (j_iload_n rfl rfl (j_ial rfl hx5 (j_istore_n [some (.ref v0), some (.int v1), some (.int x5)] rfl rfl (Or.inr rfl) rfl (j_aload_n rfl rfl (j_gfr rfl hx6 (j_iload_n rfl rfl (j_ial rfl hx7 (j_bipush (24 : Int32) rfl kb_24 (g)))))))))))))) ?_
  refine J_sq (fun (t14 : Int32) (σ15 : q_H) => q_G (q_rf fo) d m_Mo_tests o σ' 44 [some (.ref v0), some (.int v1), some (.int t14)] [] σ15) ?_ (fun t14 σ15 => ?_)
  · refine J_ite (fun h8 => ?_) (fun h8 => ?_)
    · refine J_bind fun x9 hx9 => ?_
      refine J_bind fun x10 hx10 => ?_
      refine J_bind fun x11 hx11 => ?_
      refine J_bind fun x12 hx12 => ?_
      refine q_J.step (fun g => j_icmp_f rfl (cc_ne_f h8) (j_aload_n rfl rfl (j_gfr rfl hx9 (j_iload_n rfl rfl (j_ial rfl hx10 (j_aload_n rfl rfl (j_gfr rfl hx11 (j_iload_n rfl rfl (j_ial rfl hx12 (g)))))))))) ?_
      refine J_ite (fun h13 => ?_) (fun h13 => ?_)
      · exact J_some (fun h => j_icmp_f rfl (cc_ge_f h13) (j_iconst (1 : Int32) rfl k32_1 (j_goto rfl (j_istore_n [some (.ref v0), some (.int v1), some (.int (1 : Int32))] rfl rfl (Or.inr rfl) rfl (h)))))
      exact J_some (fun h => j_icmp_t rfl (cc_ge_t h13) (j_iconst (0 : Int32) rfl k32_0 (j_istore_n [some (.ref v0), some (.int v1), some (.int (0 : Int32))] rfl rfl (Or.inr rfl) rfl (h))))
    exact J_some (fun h => j_icmp_t rfl (cc_ne_t h8) (h))
  refine J_bind fun x16 hx16 => ?_
  refine J_bind fun x17 hx17 => ?_
  refine q_J.step (fun g => j_aload_n rfl rfl (j_gfr rfl hx16 (j_iload_n rfl rfl (j_ial rfl hx17 (j_bipush (25 : Int32) rfl kb_25 (g)))))) ?_
  refine J_sq (fun (t24 : Int32) (σ25 : q_H) => q_G (q_rf fo) d m_Mo_tests o σ' 76 [some (.ref v0), some (.int v1), some (.int t24)] [] σ25) ?_ (fun t24 σ25 => ?_)
  · refine J_ite (fun h18 => ?_) (fun h18 => ?_)
    · refine J_bind fun x19 hx19 => ?_
      refine J_bind fun x20 hx20 => ?_
      refine J_bind fun x21 hx21 => ?_
      refine J_bind fun x22 hx22 => ?_
      refine q_J.step (fun g => j_icmp_f rfl (cc_ne_f h18) (j_aload_n rfl rfl (j_gfr rfl hx19 (j_iload_n rfl rfl (j_ial rfl hx20 (j_aload_n rfl rfl (j_gfr rfl hx21 (j_iload_n rfl rfl (j_ial rfl hx22 (g)))))))))) ?_
      refine J_ite (fun h23 => ?_) (fun h23 => ?_)
      · exact J_some (fun h => j_icmp_f rfl (cc_ne_f h23) (j_iconst (1 : Int32) rfl k32_1 (j_goto rfl (j_istore_n [some (.ref v0), some (.int v1), some (.int (1 : Int32))] rfl rfl (Or.inr rfl) rfl (h)))))
      exact J_some (fun h => j_icmp_t rfl (cc_ne_t h23) (j_iconst (0 : Int32) rfl k32_0 (j_istore_n [some (.ref v0), some (.int v1), some (.int (0 : Int32))] rfl rfl (Or.inr rfl) rfl (h))))
    exact J_some (fun h => j_icmp_t rfl (cc_ne_t h18) (h))
  refine J_bind fun x26 hx26 => ?_
  refine J_bind fun x27 hx27 => ?_
  refine q_J.step (fun g => j_aload_n rfl rfl (j_gfr rfl hx26 (j_iload_n rfl rfl (j_ial rfl hx27 (j_bipush (26 : Int32) rfl kb_26 (g)))))) ?_
  refine J_sq (fun (t33 : Int32) (σ34 : q_H) => q_G (q_rf fo) d m_Mo_tests o σ' 106 [some (.ref v0), some (.int v1), some (.int t33)] [] σ34) ?_ (fun t33 σ34 => ?_)
  · refine J_ite (fun h28 => ?_) (fun h28 => ?_)
    · refine J_bind fun x29 hx29 => ?_
      refine J_bind fun x30 hx30 => ?_
      refine q_J.step (fun g => j_icmp_f rfl (cc_ne_f h28) (j_aload_n rfl rfl (j_gfr rfl hx29 (j_iload_n rfl rfl (j_ial rfl hx30 (g)))))) ?_
      refine J_ite (fun h31 => ?_) (fun h31 => ?_)
      · exact J_some (fun h => j_if_t rfl (cc_eq_t h31) (j_iconst (0 : Int32) rfl k32_0 (j_istore_n [some (.ref v0), some (.int v1), some (.int (0 : Int32))] rfl rfl (Or.inr rfl) rfl (h))))
      refine q_J.step (fun g => j_if_f rfl (cc_eq_f h31) (j_iload_n rfl rfl (g))) ?_
      refine J_ite (fun h32 => ?_) (fun h32 => ?_)
      · exact J_some (fun h => j_if_t rfl (cc_eq_t h32) (j_iconst (0 : Int32) rfl k32_0 (j_istore_n [some (.ref v0), some (.int v1), some (.int (0 : Int32))] rfl rfl (Or.inr rfl) rfl (h))))
      exact J_some (fun h => j_if_f rfl (cc_eq_f h32) (j_iconst (1 : Int32) rfl k32_1 (j_goto rfl (j_istore_n [some (.ref v0), some (.int v1), some (.int (1 : Int32))] rfl rfl (Or.inr rfl) rfl (h)))))
    exact J_some (fun h => j_icmp_t rfl (cc_ne_t h28) (h))
  refine J_bind fun x35 hx35 => ?_
  refine J_bind fun x36 hx36 => ?_
  refine q_J.step (fun g => j_aload_n rfl rfl (j_gfr rfl hx35 (j_iload_n rfl rfl (j_ial rfl hx36 (j_bipush (27 : Int32) rfl kb_27 (g)))))) ?_
  refine J_sq (fun (t42 : Int32) (σ43 : q_H) => q_G (q_rf fo) d m_Mo_tests o σ' 136 [some (.ref v0), some (.int v1), some (.int t42)] [] σ43) ?_ (fun t42 σ43 => ?_)
  · refine J_ite (fun h37 => ?_) (fun h37 => ?_)
    · refine J_bind fun x38 hx38 => ?_
      refine J_bind fun x39 hx39 => ?_
      refine q_J.step (fun g => j_icmp_f rfl (cc_ne_f h37) (j_aload_n rfl rfl (j_gfr rfl hx38 (j_iload_n rfl rfl (j_ial rfl hx39 (g)))))) ?_
      refine J_ite (fun h40 => ?_) (fun h40 => ?_)
      · refine q_J.step (fun g => j_if_f rfl (cc_ne_f h40) (j_iload_n rfl rfl (g))) ?_
        refine J_ite (fun h41 => ?_) (fun h41 => ?_)
        · exact J_some (fun h => j_if_t rfl (cc_eq_t h41) (j_iconst (0 : Int32) rfl k32_0 (j_istore_n [some (.ref v0), some (.int v1), some (.int (0 : Int32))] rfl rfl (Or.inr rfl) rfl (h))))
        exact J_some (fun h => j_if_f rfl (cc_eq_f h41) (j_iconst (1 : Int32) rfl k32_1 (j_goto rfl (j_istore_n [some (.ref v0), some (.int v1), some (.int (1 : Int32))] rfl rfl (Or.inr rfl) rfl (h)))))
      exact J_some (fun h => j_if_t rfl (cc_ne_t h40) (j_iconst (1 : Int32) rfl k32_1 (j_goto rfl (j_istore_n [some (.ref v0), some (.int v1), some (.int (1 : Int32))] rfl rfl (Or.inr rfl) rfl (h)))))
    exact J_some (fun h => j_icmp_t rfl (cc_ne_t h37) (h))
  refine J_bind fun x44 hx44 => ?_
  refine J_bind fun σ45 hσ45 => ?_
  refine J_bind fun x46 hx46 => ?_
  refine J_bind fun σ47 hσ47 => ?_
  refine J_bind fun x48 hx48 => ?_
  refine J_bind fun σ49 hσ49 => ?_
  refine J_bind fun x50 hx50 => ?_
  refine J_bind fun σ51 hσ51 => ?_
  exact J_some (fun h => j_aload_n rfl rfl (j_gfr rfl hx44 (j_iload_n rfl rfl (j_iload_n rfl rfl (j_ias rfl hσ45 (j_aload_n rfl rfl (j_gfr rfl hx46 (j_iload_n rfl rfl (j_iconst (0 : Int32) rfl k32_0 (j_ias rfl hσ47 (j_aload_n rfl rfl (j_gfr rfl hx48 (j_iload_n rfl rfl (j_iconst (0 : Int32) rfl k32_0 (j_ias rfl hσ49 (j_aload_n rfl rfl (j_gfr rfl hx50 (j_iload_n rfl rfl (j_bipush (20 : Int32) rfl kb_20 (j_ias rfl hσ51 (j_vret rfl rfl h)))))))))))))))))))))
theorem t_Mo_tests {fo : Option Nat} {d : Nat} (hd : 2 ≤ d) {v0 : Nat} {v1 : Int32} {σ σ1 : q_H} {r : Unit} (h : f_Mo_tests v0 v1 σ = some (r, σ1)) : q_Rel (q_rf fo) q_Ms d 258 [.ref v0, .int v1] σ (.inl none) σ1 := by
  obtain ⟨d, rfl⟩ : ∃ d1, d = d1 + 1 := ⟨d - 1, by omega⟩
  exact q_Rel.of rfl rfl (b_Mo_tests hd _ _ σ _ _ h ⟨rfl, rfl⟩)

set_option maxRecDepth 100000 in
theorem b_Mo_isWorld {fo : Option Nat} {d : Nat} (hd : 2 ≤ d + 1) {o : q_O} {σ' : q_H} (v0 : Int32) (v1 : Int32) (v2 : Int32) (v3 : Int32) (σ : q_H) : q_J (fun (r : Int32) (σ1 : q_H) => o = .inl (some (.int r)) ∧ σ' = σ1) (f_Mo_isWorld v0 v1 v2 v3 σ) (q_G (q_rf fo) d m_Mo_isWorld o σ' 0 [some (.int v0), some (.int v1), some (.int v2), some (.int v3)] [] σ) := by
  unfold f_Mo_isWorld
  refine J_cl fun x2 σ1 hσ1 => ?_
  refine q_J.step (fun g => j_iload_n rfl rfl (j_iconst (1 : Int32) rfl k32_1 (j_bipush (40 : Int32) rfl kb_40 (j_s1 [.int v0, .int (1 : Int32), .int (40 : Int32)] [] rfl rfl rfl rfl rfl (t_Mo_within (by omega) hσ1) (g))))) ?_
  refine J_ite (fun h3 => ?_) (fun h3 => ?_)
  · exact J_some (fun h => j_if_t rfl (cc_eq_t h3) (j_iconst (0 : Int32) rfl k32_0 (j_iret rfl (q_zr (Or.inl rfl)) h)))
  refine J_cl fun x5 σ4 hσ4 => ?_
  refine q_J.step (fun g => j_if_f rfl (cc_eq_f h3) (j_iload_n rfl rfl (j_s1 [.int v1] [] rfl rfl rfl rfl rfl (t_Mo_isTable (by omega) hσ4) (g)))) ?_
  refine J_ite (fun h6 => ?_) (fun h6 => ?_)
  · exact J_some (fun h => j_if_t rfl (cc_eq_t h6) (j_iconst (0 : Int32) rfl k32_0 (j_iret rfl (q_zr (Or.inl rfl)) h)))
  refine J_cl fun x8 σ7 hσ7 => ?_
  refine q_J.step (fun g => j_if_f rfl (cc_eq_f h6) (j_iload_n rfl rfl (j_iconst (0 : Int32) rfl k32_0 (j_bipush (30 : Int32) rfl kb_30 (j_s1 [.int v2, .int (0 : Int32), .int (30 : Int32)] [] rfl rfl rfl rfl rfl (t_Mo_within (by omega) hσ7) (g)))))) ?_
  refine J_ite (fun h9 => ?_) (fun h9 => ?_)
  · exact J_some (fun h => j_if_t rfl (cc_eq_t h9) (j_iconst (0 : Int32) rfl k32_0 (j_iret rfl (q_zr (Or.inl rfl)) h)))
  refine J_cl fun x11 σ10 hσ10 => ?_
  refine q_J.step (fun g => j_if_f rfl (cc_eq_f h9) (j_iload_n rfl rfl (j_iconst (0 : Int32) rfl k32_0 (j_bipush (10 : Int32) rfl kb_10 (j_s1 [.int v3, .int (0 : Int32), .int (10 : Int32)] [] rfl rfl rfl rfl rfl (t_Mo_within (by omega) hσ10) (g)))))) ?_
  refine J_ite (fun h12 => ?_) (fun h12 => ?_)
  · exact J_some (fun h => j_if_t rfl (cc_eq_t h12) (j_iconst (0 : Int32) rfl k32_0 (j_iret rfl (q_zr (Or.inl rfl)) h)))
  exact J_some (fun h => j_if_f rfl (cc_eq_f h12) (j_iconst (1 : Int32) rfl k32_1 (j_goto rfl (j_iret rfl (q_zr (Or.inr rfl)) h))))
theorem t_Mo_isWorld {fo : Option Nat} {d : Nat} (hd : 2 ≤ d) {v0 : Int32} {v1 : Int32} {v2 : Int32} {v3 : Int32} {σ σ1 : q_H} {r : Int32} (h : f_Mo_isWorld v0 v1 v2 v3 σ = some (r, σ1)) : q_Rel (q_rf fo) q_Ms d 264 [.int v0, .int v1, .int v2, .int v3] σ (.inl (some (.int r))) σ1 := by
  obtain ⟨d, rfl⟩ : ∃ d1, d = d1 + 1 := ⟨d - 1, by omega⟩
  exact q_Rel.of rfl rfl (b_Mo_isWorld hd _ _ _ _ σ _ _ h ⟨rfl, rfl⟩)

set_option maxRecDepth 100000 in
theorem l_Mo_weds_L52 {fo : Option Nat} {d : Nat} (hd : 2 ≤ d + 1) {o : q_O} {σ' : q_H} {E : (Int32) → q_H → Prop} (v0 : Nat) (v1 : Int32) (v2 : Int32) (v3 : Int32) (v4 : Int32) (hX : ∀ (t : Int32) σ1, E (t) σ1 → q_G (q_rf fo) d m_Mo_weds o σ' 123 [some (.ref v0), some (.int v1), some (.int v2), some (.int v3), some (.int v4), some (.int t), none] [] σ1)  : ∀ (n : Nat) (v5 : Int32) (v6 : Int32) (σ : q_H), q_J E (f_Mo_weds_L52 v0 v1 v2 v3 v4 n v5 v6 σ) (q_G (q_rf fo) d m_Mo_weds o σ' 52 [some (.ref v0), some (.int v1), some (.int v2), some (.int v3), some (.int v4), some (.int v5), some (.int v6)] [] σ)
  | 0, v5, v6, σ => J_none
  | n + 1, v5, v6, σ => by
    unfold f_Mo_weds_L52
    refine q_J.step (fun g => j_iload rfl rfl (g)) ?_
    refine J_ite (fun h1 => ?_) (fun h1 => ?_)
    · exact J_some (fun h => j_if_t rfl (cc_lt_t h1) (j_weak (l := [some (.ref v0), some (.int v1), some (.int v2), some (.int v3), some (.int v4), some (.int v5), none]) (And.intro (Or.inr rfl) (And.intro (Or.inr rfl) (And.intro (Or.inr rfl) (And.intro (Or.inr rfl) (And.intro (Or.inr rfl) (And.intro (Or.inr rfl) (And.intro (Or.inl rfl) True.intro))))))) (hX _ _ h)))
    refine J_bind fun x2 hx2 => ?_
    refine J_bind fun x3 hx3 => ?_
    refine q_J.step (fun g => j_if_f rfl (cc_lt_f h1) (j_aload_n rfl rfl (j_gfr rfl hx2 (j_iload rfl rfl (j_bal rfl rfl hx3 (g)))))) ?_
    refine J_ite (fun h4 => ?_) (fun h4 => ?_)
    · exact q_J.step (fun g => j_if_t rfl (cc_eq_t h4) (j_iinc [some (.ref v0), some (.int v1), some (.int v2), some (.int v3), some (.int v4), some (.int v5), some (.int (v6 + (-1 : Int32)))] (v6 + (-1 : Int32)) rfl rfl (by rw [k32_m1]) (Or.inr rfl) rfl (j_goto rfl (g)))) (l_Mo_weds_L52 hd v0 v1 v2 v3 v4 hX n v5 (v6 + (-1 : Int32)) σ)
    refine J_bind fun x5 hx5 => ?_
    refine J_bind fun x6 hx6 => ?_
    refine q_J.step (fun g => j_if_f rfl (cc_eq_f h4) (j_aload_n rfl rfl (j_gfr rfl hx5 (j_iload rfl rfl (j_bal rfl rfl hx6 (g)))))) ?_
    refine J_ite (fun h7 => ?_) (fun h7 => ?_)
    · exact q_J.step (fun g => j_if_t rfl (cc_eq_t h7) (j_iinc [some (.ref v0), some (.int v1), some (.int v2), some (.int v3), some (.int v4), some (.int v5), some (.int (v6 + (-1 : Int32)))] (v6 + (-1 : Int32)) rfl rfl (by rw [k32_m1]) (Or.inr rfl) rfl (j_goto rfl (g)))) (l_Mo_weds_L52 hd v0 v1 v2 v3 v4 hX n v5 (v6 + (-1 : Int32)) σ)
    refine J_bind fun x8 hx8 => ?_
    refine J_bind fun x9 hx9 => ?_
    refine q_J.step (fun g => j_if_f rfl (cc_eq_f h7) (j_aload_n rfl rfl (j_gfr rfl hx8 (j_iload rfl rfl (j_ial rfl hx9 (j_bipush (12 : Int32) rfl kb_12 (g))))))) ?_
    refine J_ite (fun h10 => ?_) (fun h10 => ?_)
    · exact q_J.step (fun g => j_icmp_t rfl (cc_lt_t h10) (j_iinc [some (.ref v0), some (.int v1), some (.int v2), some (.int v3), some (.int v4), some (.int v5), some (.int (v6 + (-1 : Int32)))] (v6 + (-1 : Int32)) rfl rfl (by rw [k32_m1]) (Or.inr rfl) rfl (j_goto rfl (g)))) (l_Mo_weds_L52 hd v0 v1 v2 v3 v4 hX n v5 (v6 + (-1 : Int32)) σ)
    refine J_bind fun x11 hx11 => ?_
    refine J_bind fun x12 hx12 => ?_
    refine J_bind fun x13 hx13 => ?_
    refine J_bind fun x14 hx14 => ?_
    refine J_cl fun x16 σ15 hσ15 => ?_
    refine q_J.step (fun g => j_icmp_f rfl (cc_lt_f h10) (j_aload_n rfl rfl (j_gfr rfl hx11 (j_iload rfl rfl (j_ial rfl hx12 (j_aload_n rfl rfl (j_gfr rfl hx13 (j_iload rfl rfl (j_ial rfl hx14 (j_isub rfl (j_iload_n rfl rfl (j_ineg rfl (j_iload_n rfl rfl (j_s1 [.int (x12 - x14), .int (-v2), .int v2] [] rfl rfl rfl rfl rfl (t_Mo_within (by omega) hσ15) (g))))))))))))))) ?_
    refine J_ite (fun h17 => ?_) (fun h17 => ?_)
    · exact q_J.step (fun g => j_if_t rfl (cc_eq_t h17) (j_iinc [some (.ref v0), some (.int v1), some (.int v2), some (.int v3), some (.int v4), some (.int v5), some (.int (v6 + (-1 : Int32)))] (v6 + (-1 : Int32)) rfl rfl (by rw [k32_m1]) (Or.inr rfl) rfl (j_goto rfl (g)))) (l_Mo_weds_L52 hd v0 v1 v2 v3 v4 hX n v5 (v6 + (-1 : Int32)) σ15)
    exact q_J.step (fun g => j_if_f rfl (cc_eq_f h17) (j_iload rfl rfl (j_istore [some (.ref v0), some (.int v1), some (.int v2), some (.int v3), some (.int v4), some (.int v6), some (.int v6)] rfl rfl (Or.inr rfl) rfl (j_iinc [some (.ref v0), some (.int v1), some (.int v2), some (.int v3), some (.int v4), some (.int v6), some (.int (v6 + (-1 : Int32)))] (v6 + (-1 : Int32)) rfl rfl (by rw [k32_m1]) (Or.inr rfl) rfl (j_goto rfl (g)))))) (l_Mo_weds_L52 hd v0 v1 v2 v3 v4 hX n v6 (v6 + (-1 : Int32)) σ15)

set_option maxRecDepth 100000 in
theorem l_Mo_weds_L3 {fo : Option Nat} {d : Nat} (hd : 2 ≤ d + 1) {o : q_O} {σ' : q_H} {E : (Unit) → q_H → Prop} (v0 : Nat) (v1 : Int32) (v2 : Int32) (v3 : Int32) (hX : ∀ (t : Unit) σ1, E (t) σ1 → q_G (q_rf fo) d m_Mo_weds o σ' 175 [none, none, none, none, none, none, none] [] σ1)  : ∀ (n : Nat) (v4 : Int32) (σ : q_H), q_J E (f_Mo_weds_L3 v0 v1 v2 v3 n v4 σ) (q_G (q_rf fo) d m_Mo_weds o σ' 3 [some (.ref v0), some (.int v1), some (.int v2), some (.int v3), some (.int v4), none, none] [] σ)
  | 0, v4, σ => J_none
  | n + 1, v4, σ => by
    unfold f_Mo_weds_L3
    refine q_J.step (fun g => j_iload rfl rfl (j_iload_n rfl rfl (g))) ?_
    refine J_ite (fun h1 => ?_) (fun h1 => ?_)
    · refine J_bind fun x2 hx2 => ?_
      refine J_bind fun x3 hx3 => ?_
      refine q_J.step (fun g => j_icmp_f rfl (cc_ge_f h1) (j_aload_n rfl rfl (j_gfr rfl hx2 (j_iload rfl rfl (j_bal rfl rfl hx3 (g)))))) ?_
      refine J_ite (fun h4 => ?_) (fun h4 => ?_)
      · refine J_bind fun x5 hx5 => ?_
        refine J_bind fun x6 hx6 => ?_
        refine q_J.step (fun g => j_if_f rfl (cc_ne_f h4) (j_aload_n rfl rfl (j_gfr rfl hx5 (j_iload rfl rfl (j_bal rfl rfl hx6 (g)))))) ?_
        refine J_ite (fun h7 => ?_) (fun h7 => ?_)
        · exact q_J.step (fun g => j_if_t rfl (cc_eq_t h7) (j_iinc [some (.ref v0), some (.int v1), some (.int v2), some (.int v3), some (.int (v4 + (1 : Int32))), none, none] (v4 + (1 : Int32)) rfl rfl (by rw [k32_1]) (Or.inr rfl) rfl (j_goto rfl (g)))) (l_Mo_weds_L3 hd v0 v1 v2 v3 hX n (v4 + (1 : Int32)) σ)
        refine J_bind fun x8 hx8 => ?_
        refine J_bind fun x9 hx9 => ?_
        refine q_J.step (fun g => j_if_f rfl (cc_eq_f h7) (j_aload_n rfl rfl (j_gfr rfl hx8 (j_iload rfl rfl (j_ial rfl hx9 (j_bipush (15 : Int32) rfl kb_15 (g))))))) ?_
        refine J_ite (fun h10 => ?_) (fun h10 => ?_)
        · exact q_J.step (fun g => j_icmp_f rfl (cc_ge_f h10) (j_goto rfl (j_iinc [some (.ref v0), some (.int v1), some (.int v2), some (.int v3), some (.int (v4 + (1 : Int32))), none, none] (v4 + (1 : Int32)) rfl rfl (by rw [k32_1]) (Or.inr rfl) rfl (j_goto rfl (g))))) (l_Mo_weds_L3 hd v0 v1 v2 v3 hX n (v4 + (1 : Int32)) σ)
        refine J_sq (fun (t11 : Int32) (σ12 : q_H) => q_G (q_rf fo) d m_Mo_weds o σ' 123 [some (.ref v0), some (.int v1), some (.int v2), some (.int v3), some (.int v4), some (.int t11), none] [] σ12) (q_J.step (fun g => j_icmp_t rfl (cc_ge_t h10) (j_iconst (-1 : Int32) rfl k32_m1 (j_istore [some (.ref v0), some (.int v1), some (.int v2), some (.int v3), some (.int v4), some (.int (-1 : Int32)), none] rfl rfl (Or.inr rfl) rfl (j_iload_n rfl rfl (j_iconst (1 : Int32) rfl k32_1 (j_isub rfl (j_istore [some (.ref v0), some (.int v1), some (.int v2), some (.int v3), some (.int v4), some (.int (-1 : Int32)), some (.int (v1 - (1 : Int32)))] rfl rfl (Or.inr rfl) rfl (g)))))))) (l_Mo_weds_L52 hd v0 v1 v2 v3 v4 (fun _ _ h => h) q_FU (-1 : Int32) (v1 - (1 : Int32)) σ)) (fun t11 σ12 => ?_)
        refine J_bind fun x13 hx13 => ?_
        refine J_bind fun σ14 hσ14 => ?_
        refine q_J.step (fun g => j_aload_n rfl rfl (j_dup rfl rfl (j_gfi rfl hx13 (j_iconst (1 : Int32) rfl k32_1 (j_iadd rfl (j_putf rfl rfl rfl rfl hσ14 (j_iload rfl rfl (g)))))))) ?_
        refine J_ite (fun h15 => ?_) (fun h15 => ?_)
        · exact q_J.step (fun g => j_if_t rfl (cc_lt_t h15) (j_iinc [some (.ref v0), some (.int v1), some (.int v2), some (.int v3), some (.int (v4 + (1 : Int32))), some (.int t11), none] (v4 + (1 : Int32)) rfl rfl (by rw [k32_1]) (Or.inr rfl) rfl (j_goto rfl (j_weak (l := [some (.ref v0), some (.int v1), some (.int v2), some (.int v3), some (.int (v4 + (1 : Int32))), none, none]) (And.intro (Or.inr rfl) (And.intro (Or.inr rfl) (And.intro (Or.inr rfl) (And.intro (Or.inr rfl) (And.intro (Or.inr rfl) (And.intro (Or.inl rfl) (And.intro (Or.inr rfl) True.intro))))))) (g))))) (l_Mo_weds_L3 hd v0 v1 v2 v3 hX n (v4 + (1 : Int32)) σ14)
        refine J_bind fun w16 hw16 => ?_
        refine J_cl fun x18 σ17 hσ17 => ?_
        refine q_J.step (fun g => j_if_f rfl (cc_lt_f h15) (j_aload_n rfl rfl (j_bipush (10 : Int32) rfl kb_10 (j_v1 [.ref v0, .int (10 : Int32)] [] rfl rfl rfl rfl rfl rfl hw16 (Or.inl rfl) (t_Mo_draws (by omega) hσ17) (j_iload_n rfl rfl (g)))))) ?_
        refine J_ite (fun h19 => ?_) (fun h19 => ?_)
        · refine J_bind fun x20 hx20 => ?_
          refine J_bind fun σ21 hσ21 => ?_
          refine J_bind fun x22 hx22 => ?_
          refine J_bind fun σ23 hσ23 => ?_
          exact q_J.step (fun g => j_icmp_t rfl (cc_lt_t h19) (j_aload_n rfl rfl (j_gfr rfl hx20 (j_iload rfl rfl (j_iconst (0 : Int32) rfl k32_0 (j_bas rfl (by decide) hσ21 (j_aload_n rfl rfl (j_dup rfl rfl (j_gfi rfl hx22 (j_iconst (1 : Int32) rfl k32_1 (j_iadd rfl (j_putf rfl rfl rfl rfl hσ23 (j_iinc [some (.ref v0), some (.int v1), some (.int v2), some (.int v3), some (.int (v4 + (1 : Int32))), some (.int t11), none] (v4 + (1 : Int32)) rfl rfl (by rw [k32_1]) (Or.inr rfl) rfl (j_goto rfl (j_weak (l := [some (.ref v0), some (.int v1), some (.int v2), some (.int v3), some (.int (v4 + (1 : Int32))), none, none]) (And.intro (Or.inr rfl) (And.intro (Or.inr rfl) (And.intro (Or.inr rfl) (And.intro (Or.inr rfl) (And.intro (Or.inr rfl) (And.intro (Or.inl rfl) (And.intro (Or.inr rfl) True.intro))))))) (g)))))))))))))))) (l_Mo_weds_L3 hd v0 v1 v2 v3 hX n (v4 + (1 : Int32)) σ23)
        exact q_J.step (fun g => j_icmp_f rfl (cc_lt_f h19) (j_goto rfl (j_iinc [some (.ref v0), some (.int v1), some (.int v2), some (.int v3), some (.int (v4 + (1 : Int32))), some (.int t11), none] (v4 + (1 : Int32)) rfl rfl (by rw [k32_1]) (Or.inr rfl) rfl (j_goto rfl (j_weak (l := [some (.ref v0), some (.int v1), some (.int v2), some (.int v3), some (.int (v4 + (1 : Int32))), none, none]) (And.intro (Or.inr rfl) (And.intro (Or.inr rfl) (And.intro (Or.inr rfl) (And.intro (Or.inr rfl) (And.intro (Or.inr rfl) (And.intro (Or.inl rfl) (And.intro (Or.inr rfl) True.intro))))))) (g)))))) (l_Mo_weds_L3 hd v0 v1 v2 v3 hX n (v4 + (1 : Int32)) σ17)
      exact q_J.step (fun g => j_if_t rfl (cc_ne_t h4) (j_iinc [some (.ref v0), some (.int v1), some (.int v2), some (.int v3), some (.int (v4 + (1 : Int32))), none, none] (v4 + (1 : Int32)) rfl rfl (by rw [k32_1]) (Or.inr rfl) rfl (j_goto rfl (g)))) (l_Mo_weds_L3 hd v0 v1 v2 v3 hX n (v4 + (1 : Int32)) σ)
    exact J_some (fun h => j_icmp_t rfl (cc_ge_t h1) (j_weak (l := [none, none, none, none, none, none, none]) (And.intro (Or.inl rfl) (And.intro (Or.inl rfl) (And.intro (Or.inl rfl) (And.intro (Or.inl rfl) (And.intro (Or.inl rfl) (And.intro (Or.inr rfl) (And.intro (Or.inr rfl) True.intro))))))) (hX _ _ h)))

set_option maxRecDepth 100000 in
theorem b_Mo_weds {fo : Option Nat} {d : Nat} (hd : 2 ≤ d + 1) {o : q_O} {σ' : q_H} (v0 : Nat) (v1 : Int32) (v2 : Int32) (v3 : Int32) (σ : q_H) : q_J (fun (r : Unit) (σ1 : q_H) => o = .inl none ∧ σ' = σ1) (f_Mo_weds v0 v1 v2 v3 σ) (q_G (q_rf fo) d m_Mo_weds o σ' 0 [some (.ref v0), some (.int v1), some (.int v2), some (.int v3), none, none, none] [] σ) := by
  unfold f_Mo_weds
  refine J_sq (fun (t1 : Unit) (σ2 : q_H) => q_G (q_rf fo) d m_Mo_weds o σ' 175 [none, none, none, none, none, none, none] [] σ2) (q_J.step (fun g => j_iconst (0 : Int32) rfl k32_0 (j_istore [some (.ref v0), some (.int v1), some (.int v2), some (.int v3), some (.int (0 : Int32)), none, none] rfl rfl (Or.inr rfl) rfl (g))) (l_Mo_weds_L3 hd v0 v1 v2 v3 (fun _ _ h => h) q_FU (0 : Int32) σ)) (fun t1 σ2 => ?_)
  exact J_some (fun h => j_vret rfl rfl h)
theorem t_Mo_weds {fo : Option Nat} {d : Nat} (hd : 2 ≤ d) {v0 : Nat} {v1 : Int32} {v2 : Int32} {v3 : Int32} {σ σ1 : q_H} {r : Unit} (h : f_Mo_weds v0 v1 v2 v3 σ = some (r, σ1)) : q_Rel (q_rf fo) q_Ms d 267 [.ref v0, .int v1, .int v2, .int v3] σ (.inl none) σ1 := by
  obtain ⟨d, rfl⟩ : ∃ d1, d = d1 + 1 := ⟨d - 1, by omega⟩
  exact q_Rel.of rfl rfl (b_Mo_weds hd _ _ _ _ σ _ _ h ⟨rfl, rfl⟩)

set_option maxRecDepth 100000 in
theorem b_Mo_mark {fo : Option Nat} {d : Nat} (hd : 2 ≤ d + 1) {o : q_O} {σ' : q_H} (v0 : Nat) (v1 : Int32) (v2 : Int32) (σ : q_H) : q_J (fun (r : Int32) (σ1 : q_H) => o = .inl (some (.int r)) ∧ σ' = σ1) (f_Mo_mark v0 v1 v2 σ) (q_G (q_rf fo) d m_Mo_mark o σ' 0 [some (.ref v0), some (.int v1), some (.int v2)] [] σ) := by
  unfold f_Mo_mark
  refine J_bind fun σ1 hσ1 => ?_
  refine J_cl fun x3 σ2 hσ2 => ?_
  refine q_J.step (fun g => j_aload_n rfl rfl (j_iconst (0 : Int32) rfl k32_0 (j_putf rfl rfl rfl rfl hσ1 (j_iload_n rfl rfl (j_iconst (0 : Int32) rfl k32_0 (j_iconst (3 : Int32) rfl k32_3 (j_s1 [.int v1, .int (0 : Int32), .int (3 : Int32)] [] rfl rfl rfl rfl rfl (t_Mo_within (by omega) hσ2) (g)))))))) ?_
  refine J_ite (fun h4 => ?_) (fun h4 => ?_)
  · exact J_some (fun h => j_if_t rfl (cc_eq_t h4) (j_iconst (0 : Int32) rfl k32_0 (j_iret rfl (q_zr (Or.inl rfl)) h)))
  refine q_J.step (fun g => j_if_f rfl (cc_eq_f h4) (j_iload_n rfl rfl (g))) ?_
  refine J_ite (fun h5 => ?_) (fun h5 => ?_)
  · refine q_J.step (fun g => j_if_t rfl (cc_eq_t h5) (j_iload_n rfl rfl (g))) ?_
    refine J_ite (fun h6 => ?_) (fun h6 => ?_)
    · refine J_bind fun w7 hw7 => ?_
      refine J_cl fun _ σ8 hσ8 => ?_
      refine J_bind fun x10 hx10 => ?_
      refine J_bind fun σ11 hσ11 => ?_
      exact J_some (fun h => j_if_t rfl (cc_eq_t h6) (j_aload_n rfl rfl (j_iload_n rfl rfl (j_v0 [.ref v0, .int v1] [] rfl rfl rfl rfl rfl rfl hw7 (Or.inl rfl) (t_Mo_keeps (by omega) hσ8) (j_aload_n rfl rfl (j_gfr rfl hx10 (j_iload_n rfl rfl (j_iconst (1 : Int32) rfl k32_1 (j_bas rfl (by decide) hσ11 (j_iconst (1 : Int32) rfl k32_1 (j_iret rfl (q_zr (Or.inr rfl)) h)))))))))))
    refine J_bind fun w12 hw12 => ?_
    refine J_cl fun _ σ13 hσ13 => ?_
    refine J_bind fun x15 hx15 => ?_
    refine J_bind fun σ16 hσ16 => ?_
    exact J_some (fun h => j_if_f rfl (cc_eq_f h6) (j_aload_n rfl rfl (j_iload_n rfl rfl (j_v0 [.ref v0, .int v1] [] rfl rfl rfl rfl rfl rfl hw12 (Or.inl rfl) (t_Mo_takesBack (by omega) hσ13) (j_goto rfl (j_aload_n rfl rfl (j_gfr rfl hx15 (j_iload_n rfl rfl (j_iconst (1 : Int32) rfl k32_1 (j_bas rfl (by decide) hσ16 (j_iconst (1 : Int32) rfl k32_1 (j_iret rfl (q_zr (Or.inr rfl)) h))))))))))))
  refine J_bind fun x17 hx17 => ?_
  refine J_bind fun x18 hx18 => ?_
  refine q_J.step (fun g => j_if_f rfl (cc_eq_f h5) (j_aload_n rfl rfl (j_gfr rfl hx17 (j_iload_n rfl rfl (j_bal rfl rfl hx18 (g)))))) ?_
  refine J_ite (fun h19 => ?_) (fun h19 => ?_)
  · exact J_some (fun h => j_if_f rfl (cc_ne_f h19) (j_iconst (0 : Int32) rfl k32_0 (j_iret rfl (q_zr (Or.inl rfl)) h)))
  refine q_J.step (fun g => j_if_t rfl (cc_ne_t h19) (j_iload_n rfl rfl (g))) ?_
  refine J_ite (fun h20 => ?_) (fun h20 => ?_)
  · refine J_bind fun w21 hw21 => ?_
    refine J_cl fun _ σ22 hσ22 => ?_
    refine J_bind fun x24 hx24 => ?_
    refine J_bind fun σ25 hσ25 => ?_
    exact J_some (fun h => j_if_t rfl (cc_eq_t h20) (j_aload_n rfl rfl (j_iload_n rfl rfl (j_v0 [.ref v0, .int v1] [] rfl rfl rfl rfl rfl rfl hw21 (Or.inl rfl) (t_Mo_keeps (by omega) hσ22) (j_aload_n rfl rfl (j_gfr rfl hx24 (j_iload_n rfl rfl (j_iconst (1 : Int32) rfl k32_1 (j_bas rfl (by decide) hσ25 (j_iconst (1 : Int32) rfl k32_1 (j_iret rfl (q_zr (Or.inr rfl)) h)))))))))))
  refine J_bind fun w26 hw26 => ?_
  refine J_cl fun _ σ27 hσ27 => ?_
  refine J_bind fun x29 hx29 => ?_
  refine J_bind fun σ30 hσ30 => ?_
  exact J_some (fun h => j_if_f rfl (cc_eq_f h20) (j_aload_n rfl rfl (j_iload_n rfl rfl (j_v0 [.ref v0, .int v1] [] rfl rfl rfl rfl rfl rfl hw26 (Or.inl rfl) (t_Mo_takesBack (by omega) hσ27) (j_goto rfl (j_aload_n rfl rfl (j_gfr rfl hx29 (j_iload_n rfl rfl (j_iconst (1 : Int32) rfl k32_1 (j_bas rfl (by decide) hσ30 (j_iconst (1 : Int32) rfl k32_1 (j_iret rfl (q_zr (Or.inr rfl)) h))))))))))))
theorem t_Mo_mark {fo : Option Nat} {d : Nat} (hd : 2 ≤ d) {v0 : Nat} {v1 : Int32} {v2 : Int32} {σ σ1 : q_H} {r : Int32} (h : f_Mo_mark v0 v1 v2 σ = some (r, σ1)) : q_Rel (q_rf fo) q_Ms d 275 [.ref v0, .int v1, .int v2] σ (.inl (some (.int r))) σ1 := by
  obtain ⟨d, rfl⟩ : ∃ d1, d = d1 + 1 := ⟨d - 1, by omega⟩
  exact q_Rel.of rfl rfl (b_Mo_mark hd _ _ _ σ _ _ h ⟨rfl, rfl⟩)

set_option maxRecDepth 100000 in
theorem b_Mo_may {fo : Option Nat} {d : Nat} (hd : 3 ≤ d + 1) {o : q_O} {σ' : q_H} (v0 : Nat) (v1 : Int32) (v2 : Int32) (σ : q_H) : q_J (fun (r : Int32) (σ1 : q_H) => o = .inl (some (.int r)) ∧ σ' = σ1) (f_Mo_may v0 v1 v2 σ) (q_G (q_rf fo) d m_Mo_may o σ' 0 [some (.ref v0), some (.int v1), some (.int v2)] [] σ) := by
  unfold f_Mo_may
  refine J_bind fun σ1 hσ1 => ?_
  refine J_bind fun w2 hw2 => ?_
  refine J_cl fun x4 σ3 hσ3 => ?_
  refine q_J.step (fun g => j_aload_n rfl rfl (j_iconst (0 : Int32) rfl k32_0 (j_putf rfl rfl rfl rfl hσ1 (j_aload_n rfl rfl (j_iload_n rfl rfl (j_v1 [.ref v0, .int v1] [] rfl rfl rfl rfl rfl rfl hw2 (Or.inl rfl) (t_Mo_isSheet (by omega) hσ3) (g))))))) ?_
  refine J_ite (fun h5 => ?_) (fun h5 => ?_)
  · exact J_some (fun h => j_if_t rfl (cc_eq_t h5) (j_iconst (0 : Int32) rfl k32_0 (j_iret rfl (q_zr (Or.inl rfl)) h)))
  refine J_cl fun x7 σ6 hσ6 => ?_
  refine q_J.step (fun g => j_if_f rfl (cc_eq_f h5) (j_iload_n rfl rfl (j_iconst (0 : Int32) rfl k32_0 (j_bipush (20 : Int32) rfl kb_20 (j_s1 [.int v2, .int (0 : Int32), .int (20 : Int32)] [] rfl rfl rfl rfl rfl (t_Mo_within (by omega) hσ6) (g)))))) ?_
  refine J_ite (fun h8 => ?_) (fun h8 => ?_)
  · exact J_some (fun h => j_if_f rfl (cc_ne_f h8) (j_iconst (0 : Int32) rfl k32_0 (j_iret rfl (q_zr (Or.inl rfl)) h)))
  refine J_bind fun x9 hx9 => ?_
  refine J_bind fun σ10 hσ10 => ?_
  exact J_some (fun h => j_if_t rfl (cc_ne_t h8) (j_aload_n rfl rfl (j_gfr rfl hx9 (j_iload_n rfl rfl (j_iload_n rfl rfl (j_ias rfl hσ10 (j_iconst (1 : Int32) rfl k32_1 (j_iret rfl (q_zr (Or.inr rfl)) h))))))))
theorem t_Mo_may {fo : Option Nat} {d : Nat} (hd : 3 ≤ d) {v0 : Nat} {v1 : Int32} {v2 : Int32} {σ σ1 : q_H} {r : Int32} (h : f_Mo_may v0 v1 v2 σ = some (r, σ1)) : q_Rel (q_rf fo) q_Ms d 174 [.ref v0, .int v1, .int v2] σ (.inl (some (.int r))) σ1 := by
  obtain ⟨d, rfl⟩ : ∃ d1, d = d1 + 1 := ⟨d - 1, by omega⟩
  exact q_Rel.of rfl rfl (b_Mo_may hd _ _ _ σ _ _ h ⟨rfl, rfl⟩)

set_option maxRecDepth 100000 in
theorem b_Mo_isThere {fo : Option Nat} {d : Nat} (hd : 3 ≤ d + 1) {o : q_O} {σ' : q_H} (v0 : Nat) (v1 : Int32) (σ : q_H) : q_J (fun (r : Int32) (σ1 : q_H) => o = .inl (some (.int r)) ∧ σ' = σ1) (f_Mo_isThere v0 v1 σ) (q_G (q_rf fo) d m_Mo_isThere o σ' 0 [some (.ref v0), some (.int v1)] [] σ) := by
  unfold f_Mo_isThere
  refine J_bind fun w1 hw1 => ?_
  refine J_cl fun x3 σ2 hσ2 => ?_
  refine q_J.step (fun g => j_aload_n rfl rfl (j_iload_n rfl rfl (j_v1 [.ref v0, .int v1] [] rfl rfl rfl rfl rfl rfl hw1 (Or.inl rfl) (t_Mo_isSheet (by omega) hσ2) (g)))) ?_
  refine J_ite (fun h4 => ?_) (fun h4 => ?_)
  · exact J_some (fun h => j_if_t rfl (cc_eq_t h4) (j_iconst (0 : Int32) rfl k32_0 (j_iret rfl (q_zr (Or.inl rfl)) h)))
  refine J_bind fun x5 hx5 => ?_
  refine J_bind fun x6 hx6 => ?_
  refine q_J.step (fun g => j_if_f rfl (cc_eq_f h4) (j_aload_n rfl rfl (j_gfr rfl hx5 (j_iload_n rfl rfl (j_bal rfl rfl hx6 (g)))))) ?_
  refine J_ite (fun h7 => ?_) (fun h7 => ?_)
  · exact J_some (fun h => j_if_t rfl (cc_eq_t h7) (j_iconst (0 : Int32) rfl k32_0 (j_iret rfl (q_zr (Or.inl rfl)) h)))
  exact J_some (fun h => j_if_f rfl (cc_eq_f h7) (j_iconst (1 : Int32) rfl k32_1 (j_goto rfl (j_iret rfl (q_zr (Or.inr rfl)) h))))
theorem t_Mo_isThere {fo : Option Nat} {d : Nat} (hd : 3 ≤ d) {v0 : Nat} {v1 : Int32} {σ σ1 : q_H} {r : Int32} (h : f_Mo_isThere v0 v1 σ = some (r, σ1)) : q_Rel (q_rf fo) q_Ms d 177 [.ref v0, .int v1] σ (.inl (some (.int r))) σ1 := by
  obtain ⟨d, rfl⟩ : ∃ d1, d = d1 + 1 := ⟨d - 1, by omega⟩
  exact q_Rel.of rfl rfl (b_Mo_isThere hd _ _ σ _ _ h ⟨rfl, rfl⟩)

set_option maxRecDepth 100000 in
theorem b_Mo_starts {fo : Option Nat} {d : Nat} (hd : 3 ≤ d + 1) {o : q_O} {σ' : q_H} (v0 : Nat) (σ : q_H) : q_J (fun (r : Unit) (σ1 : q_H) => o = .inl none ∧ σ' = σ1) (f_Mo_starts v0 σ) (q_G (q_rf fo) d m_Mo_starts o σ' 0 [some (.ref v0)] [] σ) := by
  unfold f_Mo_starts
  refine J_bind fun x1 hx1 => ?_
  refine J_bind fun σ2 hσ2 => ?_
  refine J_bind fun σ3 hσ3 => ?_
  refine J_bind fun σ4 hσ4 => ?_
  refine J_bind fun w5 hw5 => ?_
  refine J_cl fun _ σ6 hσ6 => ?_
  exact J_some (fun h => j_aload_n rfl rfl (j_aload_n rfl rfl (j_gfi rfl hx1 (j_putf rfl rfl rfl rfl hσ2 (j_aload_n rfl rfl (j_iconst (0 : Int32) rfl k32_0 (j_putf rfl rfl rfl rfl hσ3 (j_aload_n rfl rfl (j_iconst (0 : Int32) rfl k32_0 (j_putf rfl rfl rfl rfl hσ4 (j_aload_n rfl rfl (j_v0 [.ref v0] [] rfl rfl rfl rfl rfl rfl hw5 (Or.inl rfl) (t_Mo_nextToken (by omega) hσ6) (j_vret rfl rfl h)))))))))))))
theorem t_Mo_starts {fo : Option Nat} {d : Nat} (hd : 3 ≤ d) {v0 : Nat} {σ σ1 : q_H} {r : Unit} (h : f_Mo_starts v0 σ = some (r, σ1)) : q_Rel (q_rf fo) q_Ms d 184 [.ref v0] σ (.inl none) σ1 := by
  obtain ⟨d, rfl⟩ : ∃ d1, d = d1 + 1 := ⟨d - 1, by omega⟩
  exact q_Rel.of rfl rfl (b_Mo_starts hd _ σ _ _ h ⟨rfl, rfl⟩)

set_option maxRecDepth 100000 in
theorem b_Mo_readsName {fo : Option Nat} {d : Nat} (hd : 3 ≤ d + 1) {o : q_O} {σ' : q_H} (v0 : Nat) (v1 : Int32) (v2 : Int32) (σ : q_H) : q_J (fun (r : Int32) (σ1 : q_H) => o = .inl (some (.int r)) ∧ σ' = σ1) (f_Mo_readsName v0 v1 v2 σ) (q_G (q_rf fo) d m_Mo_readsName o σ' 0 [some (.ref v0), some (.int v1), some (.int v2), none] [] σ) := by
  unfold f_Mo_readsName
  refine J_bind fun w1 hw1 => ?_
  refine J_cl fun x3 σ2 hσ2 => ?_
  refine q_J.step (fun g => j_aload_n rfl rfl (j_v1 [.ref v0] [] rfl rfl rfl rfl rfl rfl hw1 (Or.inl rfl) (t_Mo_isName (by omega) hσ2) (g))) ?_
  refine J_ite (fun h4 => ?_) (fun h4 => ?_)
  · refine J_bind fun w5 hw5 => ?_
    refine J_cl fun x7 σ6 hσ6 => ?_
    refine q_J.step (fun g => j_if_f rfl (cc_ne_f h4) (j_aload_n rfl rfl (j_iconst (1 : Int32) rfl k32_1 (j_v1 [.ref v0, .int (1 : Int32)] [] rfl rfl rfl rfl rfl rfl hw5 (Or.inl rfl) (t_Mo_errs (by omega) hσ6) (g))))) ?_
    refine J_ite (fun _ => J_none) (fun hz => ?_)
    replace hz := Decidable.not_not.mp hz
    exact J_some (fun h => j_iret rfl (q_zr hz) h)
  refine q_J.step (fun g => j_if_t rfl (cc_ne_t h4) (j_iload_n rfl rfl (j_iconst (2 : Int32) rfl k32_2 (g)))) ?_
  refine J_ite (fun h8 => ?_) (fun h8 => ?_)
  · refine J_bind fun x9 hx9 => ?_
    refine J_bind fun w10 hw10 => ?_
    refine J_cl fun x12 σ11 hσ11 => ?_
    refine q_J.step (fun g => j_icmp_f rfl (cc_le_f h8) (j_aload_n rfl rfl (j_aload_n rfl rfl (j_gfl rfl hx9 (j_v1 [.ref v0, .long x9] [] rfl rfl rfl rfl rfl rfl hw10 (Or.inl rfl) (t_Mo_lineOf (by omega) hσ11) (j_istore_n [some (.ref v0), some (.int v1), some (.int v2), some (.int x12)] rfl rfl (Or.inr rfl) rfl (j_iload_n rfl rfl (g)))))))) ?_
    refine J_ite (fun h13 => ?_) (fun h13 => ?_)
    · refine J_bind fun w14 hw14 => ?_
      refine J_cl fun x16 σ15 hσ15 => ?_
      refine q_J.step (fun g => j_if_t rfl (cc_lt_t h13) (j_aload_n rfl rfl (j_iconst (2 : Int32) rfl k32_2 (j_v1 [.ref v0, .int (2 : Int32)] [] rfl rfl rfl rfl rfl rfl hw14 (Or.inl rfl) (t_Mo_errs (by omega) hσ15) (g))))) ?_
      refine J_ite (fun _ => J_none) (fun hz => ?_)
      replace hz := Decidable.not_not.mp hz
      exact J_some (fun h => j_iret rfl (q_zr hz) h)
    refine q_J.step (fun g => j_if_f rfl (cc_lt_f h13) (j_iload_n rfl rfl (j_iconst (3 : Int32) rfl k32_3 (g)))) ?_
    refine J_ite (fun h17 => ?_) (fun h17 => ?_)
    · refine J_bind fun x18 hx18 => ?_
      refine J_bind fun x19 hx19 => ?_
      refine q_J.step (fun g => j_icmp_f rfl (cc_ne_f h17) (j_aload_n rfl rfl (j_gfr rfl hx18 (j_sipush (288 : Int32) rfl ks_288 (j_iload_n rfl rfl (j_iadd rfl (j_ial rfl hx19 (j_iconst (1 : Int32) rfl k32_1 (g))))))))) ?_
      refine J_ite (fun h20 => ?_) (fun h20 => ?_)
      · refine J_bind fun w21 hw21 => ?_
        refine J_cl fun x23 σ22 hσ22 => ?_
        refine q_J.step (fun g => j_icmp_f rfl (cc_ne_f h20) (j_aload_n rfl rfl (j_iconst (2 : Int32) rfl k32_2 (j_v1 [.ref v0, .int (2 : Int32)] [] rfl rfl rfl rfl rfl rfl hw21 (Or.inl rfl) (t_Mo_errs (by omega) hσ22) (g))))) ?_
        refine J_ite (fun _ => J_none) (fun hz => ?_)
        replace hz := Decidable.not_not.mp hz
        exact J_some (fun h => j_iret rfl (q_zr hz) h)
      refine q_J.step (fun g => j_icmp_t rfl (cc_ne_t h20) (j_iload_n rfl rfl (j_iconst (3 : Int32) rfl k32_3 (g)))) ?_
      refine J_ite (fun h24 => ?_) (fun h24 => ?_)
      · refine J_bind fun w25 hw25 => ?_
        refine J_cl fun x27 σ26 hσ26 => ?_
        refine q_J.step (fun g => j_icmp_f rfl (cc_ne_f h24) (j_aload_n rfl rfl (j_iload_n rfl rfl (j_v1 [.ref v0, .int x12] [] rfl rfl rfl rfl rfl rfl hw25 (Or.inl rfl) (t_Mo_isWed (by omega) hσ26) (g))))) ?_
        refine J_ite (fun h28 => ?_) (fun h28 => ?_)
        · refine q_J.step (fun g => j_if_t rfl (cc_eq_t h28) (j_iload_n rfl rfl (j_iconst (3 : Int32) rfl k32_3 (g)))) ?_
          refine J_sq (fun (t34 : Unit) (σ35 : q_H) => q_G (q_rf fo) d m_Mo_readsName o σ' 97 [some (.ref v0), none, none, none] [] σ35) ?_ (fun t34 σ35 => ?_)
          · refine J_ite (fun h29 => ?_) (fun h29 => ?_)
            · refine J_bind fun x30 hx30 => ?_
              refine J_bind fun σ31 hσ31 => ?_
              exact J_some (fun h => j_icmp_f rfl (cc_ne_f h29) (j_aload_n rfl rfl (j_gfr rfl hx30 (j_iload_n rfl rfl (j_iload_n rfl rfl (j_ias rfl hσ31 (j_goto rfl (j_weak (l := [some (.ref v0), none, none, none]) (And.intro (Or.inr rfl) (And.intro (Or.inl rfl) (And.intro (Or.inl rfl) (And.intro (Or.inl rfl) True.intro)))) (h)))))))))
            refine J_bind fun x32 hx32 => ?_
            refine J_bind fun σ33 hσ33 => ?_
            exact J_some (fun h => j_icmp_t rfl (cc_ne_t h29) (j_aload_n rfl rfl (j_gfr rfl hx32 (j_iload_n rfl rfl (j_iload_n rfl rfl (j_ias rfl hσ33 (j_weak (l := [some (.ref v0), none, none, none]) (And.intro (Or.inr rfl) (And.intro (Or.inl rfl) (And.intro (Or.inl rfl) (And.intro (Or.inl rfl) True.intro)))) (h))))))))
          refine J_bind fun w36 hw36 => ?_
          refine J_cl fun _ σ37 hσ37 => ?_
          exact J_some (fun h => j_goto rfl (j_aload_n rfl rfl (j_v0 [.ref v0] [] rfl rfl rfl rfl rfl rfl hw36 (Or.inl rfl) (t_Mo_nextToken (by omega) hσ37) (j_iconst (1 : Int32) rfl k32_1 (j_iret rfl (q_zr (Or.inr rfl)) h)))))
        refine J_bind fun w39 hw39 => ?_
        refine J_cl fun x41 σ40 hσ40 => ?_
        refine q_J.step (fun g => j_if_f rfl (cc_eq_f h28) (j_aload_n rfl rfl (j_iconst (3 : Int32) rfl k32_3 (j_v1 [.ref v0, .int (3 : Int32)] [] rfl rfl rfl rfl rfl rfl hw39 (Or.inl rfl) (t_Mo_errs (by omega) hσ40) (g))))) ?_
        refine J_ite (fun _ => J_none) (fun hz => ?_)
        replace hz := Decidable.not_not.mp hz
        exact J_some (fun h => j_iret rfl (q_zr hz) h)
      refine q_J.step (fun g => j_icmp_t rfl (cc_ne_t h24) (j_iload_n rfl rfl (j_iconst (3 : Int32) rfl k32_3 (g)))) ?_
      refine J_sq (fun (t47 : Unit) (σ48 : q_H) => q_G (q_rf fo) d m_Mo_readsName o σ' 97 [some (.ref v0), none, none, none] [] σ48) ?_ (fun t47 σ48 => ?_)
      · refine J_ite (fun h42 => ?_) (fun h42 => ?_)
        · refine J_bind fun x43 hx43 => ?_
          refine J_bind fun σ44 hσ44 => ?_
          exact J_some (fun h => j_icmp_f rfl (cc_ne_f h42) (j_aload_n rfl rfl (j_gfr rfl hx43 (j_iload_n rfl rfl (j_iload_n rfl rfl (j_ias rfl hσ44 (j_goto rfl (j_weak (l := [some (.ref v0), none, none, none]) (And.intro (Or.inr rfl) (And.intro (Or.inl rfl) (And.intro (Or.inl rfl) (And.intro (Or.inl rfl) True.intro)))) (h)))))))))
        refine J_bind fun x45 hx45 => ?_
        refine J_bind fun σ46 hσ46 => ?_
        exact J_some (fun h => j_icmp_t rfl (cc_ne_t h42) (j_aload_n rfl rfl (j_gfr rfl hx45 (j_iload_n rfl rfl (j_iload_n rfl rfl (j_ias rfl hσ46 (j_weak (l := [some (.ref v0), none, none, none]) (And.intro (Or.inr rfl) (And.intro (Or.inl rfl) (And.intro (Or.inl rfl) (And.intro (Or.inl rfl) True.intro)))) (h))))))))
      refine J_bind fun w49 hw49 => ?_
      refine J_cl fun _ σ50 hσ50 => ?_
      exact J_some (fun h => j_goto rfl (j_aload_n rfl rfl (j_v0 [.ref v0] [] rfl rfl rfl rfl rfl rfl hw49 (Or.inl rfl) (t_Mo_nextToken (by omega) hσ50) (j_iconst (1 : Int32) rfl k32_1 (j_iret rfl (q_zr (Or.inr rfl)) h)))))
    refine q_J.step (fun g => j_icmp_t rfl (cc_ne_t h17) (j_iload_n rfl rfl (j_iconst (3 : Int32) rfl k32_3 (g)))) ?_
    refine J_ite (fun h52 => ?_) (fun h52 => ?_)
    · refine J_bind fun w53 hw53 => ?_
      refine J_cl fun x55 σ54 hσ54 => ?_
      refine q_J.step (fun g => j_icmp_f rfl (cc_ne_f h52) (j_aload_n rfl rfl (j_iload_n rfl rfl (j_v1 [.ref v0, .int x12] [] rfl rfl rfl rfl rfl rfl hw53 (Or.inl rfl) (t_Mo_isWed (by omega) hσ54) (g))))) ?_
      refine J_ite (fun h56 => ?_) (fun h56 => ?_)
      · refine q_J.step (fun g => j_if_t rfl (cc_eq_t h56) (j_iload_n rfl rfl (j_iconst (3 : Int32) rfl k32_3 (g)))) ?_
        refine J_sq (fun (t62 : Unit) (σ63 : q_H) => q_G (q_rf fo) d m_Mo_readsName o σ' 97 [some (.ref v0), none, none, none] [] σ63) ?_ (fun t62 σ63 => ?_)
        · refine J_ite (fun h57 => ?_) (fun h57 => ?_)
          · refine J_bind fun x58 hx58 => ?_
            refine J_bind fun σ59 hσ59 => ?_
            exact J_some (fun h => j_icmp_f rfl (cc_ne_f h57) (j_aload_n rfl rfl (j_gfr rfl hx58 (j_iload_n rfl rfl (j_iload_n rfl rfl (j_ias rfl hσ59 (j_goto rfl (j_weak (l := [some (.ref v0), none, none, none]) (And.intro (Or.inr rfl) (And.intro (Or.inl rfl) (And.intro (Or.inl rfl) (And.intro (Or.inl rfl) True.intro)))) (h)))))))))
          refine J_bind fun x60 hx60 => ?_
          refine J_bind fun σ61 hσ61 => ?_
          exact J_some (fun h => j_icmp_t rfl (cc_ne_t h57) (j_aload_n rfl rfl (j_gfr rfl hx60 (j_iload_n rfl rfl (j_iload_n rfl rfl (j_ias rfl hσ61 (j_weak (l := [some (.ref v0), none, none, none]) (And.intro (Or.inr rfl) (And.intro (Or.inl rfl) (And.intro (Or.inl rfl) (And.intro (Or.inl rfl) True.intro)))) (h))))))))
        refine J_bind fun w64 hw64 => ?_
        refine J_cl fun _ σ65 hσ65 => ?_
        exact J_some (fun h => j_goto rfl (j_aload_n rfl rfl (j_v0 [.ref v0] [] rfl rfl rfl rfl rfl rfl hw64 (Or.inl rfl) (t_Mo_nextToken (by omega) hσ65) (j_iconst (1 : Int32) rfl k32_1 (j_iret rfl (q_zr (Or.inr rfl)) h)))))
      refine J_bind fun w67 hw67 => ?_
      refine J_cl fun x69 σ68 hσ68 => ?_
      refine q_J.step (fun g => j_if_f rfl (cc_eq_f h56) (j_aload_n rfl rfl (j_iconst (3 : Int32) rfl k32_3 (j_v1 [.ref v0, .int (3 : Int32)] [] rfl rfl rfl rfl rfl rfl hw67 (Or.inl rfl) (t_Mo_errs (by omega) hσ68) (g))))) ?_
      refine J_ite (fun _ => J_none) (fun hz => ?_)
      replace hz := Decidable.not_not.mp hz
      exact J_some (fun h => j_iret rfl (q_zr hz) h)
    refine q_J.step (fun g => j_icmp_t rfl (cc_ne_t h52) (j_iload_n rfl rfl (j_iconst (3 : Int32) rfl k32_3 (g)))) ?_
    refine J_sq (fun (t75 : Unit) (σ76 : q_H) => q_G (q_rf fo) d m_Mo_readsName o σ' 97 [some (.ref v0), none, none, none] [] σ76) ?_ (fun t75 σ76 => ?_)
    · refine J_ite (fun h70 => ?_) (fun h70 => ?_)
      · refine J_bind fun x71 hx71 => ?_
        refine J_bind fun σ72 hσ72 => ?_
        exact J_some (fun h => j_icmp_f rfl (cc_ne_f h70) (j_aload_n rfl rfl (j_gfr rfl hx71 (j_iload_n rfl rfl (j_iload_n rfl rfl (j_ias rfl hσ72 (j_goto rfl (j_weak (l := [some (.ref v0), none, none, none]) (And.intro (Or.inr rfl) (And.intro (Or.inl rfl) (And.intro (Or.inl rfl) (And.intro (Or.inl rfl) True.intro)))) (h)))))))))
      refine J_bind fun x73 hx73 => ?_
      refine J_bind fun σ74 hσ74 => ?_
      exact J_some (fun h => j_icmp_t rfl (cc_ne_t h70) (j_aload_n rfl rfl (j_gfr rfl hx73 (j_iload_n rfl rfl (j_iload_n rfl rfl (j_ias rfl hσ74 (j_weak (l := [some (.ref v0), none, none, none]) (And.intro (Or.inr rfl) (And.intro (Or.inl rfl) (And.intro (Or.inl rfl) (And.intro (Or.inl rfl) True.intro)))) (h))))))))
    refine J_bind fun w77 hw77 => ?_
    refine J_cl fun _ σ78 hσ78 => ?_
    exact J_some (fun h => j_goto rfl (j_aload_n rfl rfl (j_v0 [.ref v0] [] rfl rfl rfl rfl rfl rfl hw77 (Or.inl rfl) (t_Mo_nextToken (by omega) hσ78) (j_iconst (1 : Int32) rfl k32_1 (j_iret rfl (q_zr (Or.inr rfl)) h)))))
  refine q_J.step (fun g => j_icmp_t rfl (cc_le_t h8) (j_iload_n rfl rfl (j_iconst (1 : Int32) rfl k32_1 (g)))) ?_
  refine J_sq (fun (t87 : Unit) (σ88 : q_H) => q_G (q_rf fo) d m_Mo_readsName o σ' 128 [some (.ref v0), none, none, none] [] σ88) ?_ (fun t87 σ88 => ?_)
  · refine J_ite (fun h80 => ?_) (fun h80 => ?_)
    · refine J_bind fun x81 hx81 => ?_
      refine J_bind fun x82 hx82 => ?_
      refine J_bind fun σ83 hσ83 => ?_
      exact J_some (fun h => j_icmp_f rfl (cc_ne_f h80) (j_aload_n rfl rfl (j_gfr rfl hx81 (j_iload_n rfl rfl (j_aload_n rfl rfl (j_gfl rfl hx82 (j_las rfl hσ83 (j_goto rfl (j_weak (l := [some (.ref v0), none, none, none]) (And.intro (Or.inr rfl) (And.intro (Or.inl rfl) (And.intro (Or.inl rfl) (And.intro (Or.inr rfl) True.intro)))) (h))))))))))
    refine J_bind fun x84 hx84 => ?_
    refine J_bind fun x85 hx85 => ?_
    refine J_bind fun σ86 hσ86 => ?_
    exact J_some (fun h => j_icmp_t rfl (cc_ne_t h80) (j_aload_n rfl rfl (j_gfr rfl hx84 (j_iload_n rfl rfl (j_aload_n rfl rfl (j_gfl rfl hx85 (j_las rfl hσ86 (j_weak (l := [some (.ref v0), none, none, none]) (And.intro (Or.inr rfl) (And.intro (Or.inl rfl) (And.intro (Or.inl rfl) (And.intro (Or.inr rfl) True.intro)))) (h)))))))))
  refine J_bind fun w89 hw89 => ?_
  refine J_cl fun _ σ90 hσ90 => ?_
  exact J_some (fun h => j_aload_n rfl rfl (j_v0 [.ref v0] [] rfl rfl rfl rfl rfl rfl hw89 (Or.inl rfl) (t_Mo_nextToken (by omega) hσ90) (j_iconst (1 : Int32) rfl k32_1 (j_iret rfl (q_zr (Or.inr rfl)) h))))
theorem t_Mo_readsName {fo : Option Nat} {d : Nat} (hd : 3 ≤ d) {v0 : Nat} {v1 : Int32} {v2 : Int32} {σ σ1 : q_H} {r : Int32} (h : f_Mo_readsName v0 v1 v2 σ = some (r, σ1)) : q_Rel (q_rf fo) q_Ms d 194 [.ref v0, .int v1, .int v2] σ (.inl (some (.int r))) σ1 := by
  obtain ⟨d, rfl⟩ : ∃ d1, d = d1 + 1 := ⟨d - 1, by omega⟩
  exact q_Rel.of rfl rfl (b_Mo_readsName hd _ _ _ σ _ _ h ⟨rfl, rfl⟩)

set_option maxRecDepth 100000 in
theorem b_Mo_takenOf {fo : Option Nat} {d : Nat} (hd : 3 ≤ d + 1) {o : q_O} {σ' : q_H} (v0 : Nat) (v1 : Int32) (v2 : Int32) (σ : q_H) : q_J (fun (r : Int32) (σ1 : q_H) => o = .inl (some (.int r)) ∧ σ' = σ1) (f_Mo_takenOf v0 v1 v2 σ) (q_G (q_rf fo) d m_Mo_takenOf o σ' 0 [some (.ref v0), some (.int v1), some (.int v2), none] [] σ) := by
  unfold f_Mo_takenOf
  refine J_bind fun w1 hw1 => ?_
  refine J_cl fun x3 σ2 hσ2 => ?_
  refine q_J.step (fun g => j_aload_n rfl rfl (j_iload_n rfl rfl (j_iload_n rfl rfl (j_v1 [.ref v0, .int v1, .int v2] [] rfl rfl rfl rfl rfl rfl hw1 (Or.inl rfl) (t_Mo_sortOf (by omega) hσ2) (j_istore_n [some (.ref v0), some (.int v1), some (.int v2), some (.int x3)] rfl rfl (Or.inr rfl) rfl (j_iload_n rfl rfl (g))))))) ?_
  refine J_ite (fun h4 => ?_) (fun h4 => ?_)
  · refine J_bind fun x5 hx5 => ?_
    refine J_bind fun x6 hx6 => ?_
    refine q_J.step (fun g => j_if_t rfl (cc_eq_t h4) (j_aload_n rfl rfl (j_gfr rfl hx5 (j_bipush (12 : Int32) rfl kb_12 (j_iload_n rfl rfl (j_imul rfl (j_iload_n rfl rfl (j_iadd rfl (j_ial rfl hx6 (j_iconst (2 : Int32) rfl k32_2 (j_iand rfl (g)))))))))))) ?_
    refine J_ite (fun h7 => ?_) (fun h7 => ?_)
    · exact J_some (fun h => j_if_t rfl (cc_gt_t h7) (j_iconst (2 : Int32) rfl k32_2 (j_iret rfl rfl h)))
    refine J_bind fun x8 hx8 => ?_
    refine J_bind fun w9 hw9 => ?_
    refine J_cl fun x11 σ10 hσ10 => ?_
    refine J_bind fun x12 hx12 => ?_
    refine q_J.step (fun g => j_if_f rfl (cc_gt_f h7) (j_aload_n rfl rfl (j_gfr rfl hx8 (j_aload_n rfl rfl (j_iload_n rfl rfl (j_iload_n rfl rfl (j_v1 [.ref v0, .int v1, .int v2] [.ref x8] rfl rfl rfl rfl rfl rfl hw9 (Or.inl rfl) (t_Mo_husband (by omega) hσ10) (j_ial rfl hx12 (j_iconst (2 : Int32) rfl k32_2 (j_iand rfl (g))))))))))) ?_
    refine J_ite (fun h13 => ?_) (fun h13 => ?_)
    · exact J_some (fun h => j_if_f rfl (cc_le_f h13) (j_iconst (2 : Int32) rfl k32_2 (j_iret rfl rfl h)))
    refine J_bind fun w14 hw14 => ?_
    refine J_cl fun x16 σ15 hσ15 => ?_
    refine J_bind fun w17 hw17 => ?_
    refine J_cl fun x19 σ18 hσ18 => ?_
    refine q_J.step (fun g => j_if_t rfl (cc_le_t h13) (j_aload_n rfl rfl (j_iload_n rfl rfl (j_bipush (12 : Int32) rfl kb_12 (j_iload_n rfl rfl (j_imul rfl (j_iload_n rfl rfl (j_iadd rfl (j_iconst (0 : Int32) rfl k32_0 (j_aload_n rfl rfl (j_iload_n rfl rfl (j_iload_n rfl rfl (j_v1 [.ref v0, .int v1, .int v2] [.int (0 : Int32), .int (((12 : Int32) * v1) + v2), .int v1, .ref v0] rfl rfl rfl rfl rfl rfl hw14 (Or.inl rfl) (t_Mo_husband (by omega) hσ15) (j_v1 [.ref v0, .int v1, .int (((12 : Int32) * v1) + v2), .int (0 : Int32), .int x16] [] rfl rfl rfl rfl rfl rfl hw17 (Or.inl rfl) (t_Mo_others (by omega) hσ18) (g))))))))))))))) ?_
    refine J_ite (fun h20 => ?_) (fun h20 => ?_)
    · exact J_some (fun h => j_if_f rfl (cc_le_f h20) (j_iconst (0 : Int32) rfl k32_0 (j_goto rfl (j_iret rfl rfl h))))
    exact J_some (fun h => j_if_t rfl (cc_le_t h20) (j_iconst (1 : Int32) rfl k32_1 (j_iret rfl rfl h)))
  refine q_J.step (fun g => j_if_f rfl (cc_eq_f h4) (j_iload_n rfl rfl (j_iconst (2 : Int32) rfl k32_2 (g)))) ?_
  refine J_ite (fun h21 => ?_) (fun h21 => ?_)
  · refine J_bind fun x22 hx22 => ?_
    refine J_bind fun x23 hx23 => ?_
    refine q_J.step (fun g => j_icmp_t rfl (cc_eq_t h21) (j_aload_n rfl rfl (j_gfr rfl hx22 (j_bipush (12 : Int32) rfl kb_12 (j_iload_n rfl rfl (j_imul rfl (j_iload_n rfl rfl (j_iadd rfl (j_ial rfl hx23 (j_iconst (2 : Int32) rfl k32_2 (j_iand rfl (g)))))))))))) ?_
    refine J_ite (fun h24 => ?_) (fun h24 => ?_)
    · exact J_some (fun h => j_if_t rfl (cc_gt_t h24) (j_iconst (2 : Int32) rfl k32_2 (j_iret rfl rfl h)))
    refine J_bind fun x25 hx25 => ?_
    refine J_bind fun w26 hw26 => ?_
    refine J_cl fun x28 σ27 hσ27 => ?_
    refine J_bind fun x29 hx29 => ?_
    refine q_J.step (fun g => j_if_f rfl (cc_gt_f h24) (j_aload_n rfl rfl (j_gfr rfl hx25 (j_aload_n rfl rfl (j_iload_n rfl rfl (j_iload_n rfl rfl (j_v1 [.ref v0, .int v1, .int v2] [.ref x25] rfl rfl rfl rfl rfl rfl hw26 (Or.inl rfl) (t_Mo_husband (by omega) hσ27) (j_ial rfl hx29 (j_iconst (2 : Int32) rfl k32_2 (j_iand rfl (g))))))))))) ?_
    refine J_ite (fun h30 => ?_) (fun h30 => ?_)
    · exact J_some (fun h => j_if_f rfl (cc_le_f h30) (j_iconst (2 : Int32) rfl k32_2 (j_iret rfl rfl h)))
    refine J_bind fun w31 hw31 => ?_
    refine J_cl fun x33 σ32 hσ32 => ?_
    refine J_bind fun w34 hw34 => ?_
    refine J_cl fun x36 σ35 hσ35 => ?_
    refine q_J.step (fun g => j_if_t rfl (cc_le_t h30) (j_aload_n rfl rfl (j_iload_n rfl rfl (j_bipush (12 : Int32) rfl kb_12 (j_iload_n rfl rfl (j_imul rfl (j_iload_n rfl rfl (j_iadd rfl (j_iconst (0 : Int32) rfl k32_0 (j_aload_n rfl rfl (j_iload_n rfl rfl (j_iload_n rfl rfl (j_v1 [.ref v0, .int v1, .int v2] [.int (0 : Int32), .int (((12 : Int32) * v1) + v2), .int v1, .ref v0] rfl rfl rfl rfl rfl rfl hw31 (Or.inl rfl) (t_Mo_husband (by omega) hσ32) (j_v1 [.ref v0, .int v1, .int (((12 : Int32) * v1) + v2), .int (0 : Int32), .int x33] [] rfl rfl rfl rfl rfl rfl hw34 (Or.inl rfl) (t_Mo_others (by omega) hσ35) (g))))))))))))))) ?_
    refine J_ite (fun h37 => ?_) (fun h37 => ?_)
    · exact J_some (fun h => j_if_f rfl (cc_le_f h37) (j_iconst (0 : Int32) rfl k32_0 (j_goto rfl (j_iret rfl rfl h))))
    exact J_some (fun h => j_if_t rfl (cc_le_t h37) (j_iconst (1 : Int32) rfl k32_1 (j_iret rfl rfl h)))
  exact J_some (fun h => j_icmp_f rfl (cc_eq_f h21) (j_iconst (0 : Int32) rfl k32_0 (j_iret rfl rfl h)))
theorem t_Mo_takenOf {fo : Option Nat} {d : Nat} (hd : 3 ≤ d) {v0 : Nat} {v1 : Int32} {v2 : Int32} {σ σ1 : q_H} {r : Int32} (h : f_Mo_takenOf v0 v1 v2 σ = some (r, σ1)) : q_Rel (q_rf fo) q_Ms d 207 [.ref v0, .int v1, .int v2] σ (.inl (some (.int r))) σ1 := by
  obtain ⟨d, rfl⟩ : ∃ d1, d = d1 + 1 := ⟨d - 1, by omega⟩
  exact q_Rel.of rfl rfl (b_Mo_takenOf hd _ _ _ σ _ _ h ⟨rfl, rfl⟩)

set_option maxRecDepth 100000 in
theorem b_Mo_isOne {fo : Option Nat} {d : Nat} (hd : 3 ≤ d + 1) {o : q_O} {σ' : q_H} (v0 : Nat) (v1 : Int32) (v2 : Int32) (v3 : Int32) (v4 : Int32) (σ : q_H) : q_J (fun (r : Int32) (σ1 : q_H) => o = .inl (some (.int r)) ∧ σ' = σ1) (f_Mo_isOne v0 v1 v2 v3 v4 σ) (q_G (q_rf fo) d m_Mo_isOne o σ' 0 [some (.ref v0), some (.int v1), some (.int v2), some (.int v3), some (.int v4), none, none] [] σ) := by
  unfold f_Mo_isOne
  refine J_bind fun x1 hx1 => ?_
  refine J_bind fun x2 hx2 => ?_
  refine J_bind fun x3 hx3 => ?_
  refine J_bind fun x4 hx4 => ?_
  refine q_J.step (fun g => j_bipush (12 : Int32) rfl kb_12 (j_iload_n rfl rfl (j_imul rfl (j_iload_n rfl rfl (j_iadd rfl (j_istore [some (.ref v0), some (.int v1), some (.int v2), some (.int v3), some (.int v4), some (.int (((12 : Int32) * v1) + v2)), none] rfl rfl (Or.inr rfl) rfl (j_bipush (12 : Int32) rfl kb_12 (j_iload_n rfl rfl (j_imul rfl (j_iload rfl rfl (j_iadd rfl (j_istore [some (.ref v0), some (.int v1), some (.int v2), some (.int v3), some (.int v4), some (.int (((12 : Int32) * v1) + v2)), some (.int (((12 : Int32) * v3) + v4))] rfl rfl (Or.inr rfl) rfl (j_aload_n rfl rfl (j_gfr rfl hx1 (g))))))))))))))) ?_
  refine q_J.step (fun g => j_iload rfl rfl (j_ial rfl hx2 (j_aload_n rfl rfl (j_gfr rfl hx3 (j_iload rfl rfl (j_ial rfl hx4 (g))))))) ?_
  refine J_ite (fun h5 => ?_) (fun h5 => ?_)
  · refine J_bind fun x6 hx6 => ?_
    refine J_bind fun x7 hx7 => ?_
    refine J_bind fun x8 hx8 => ?_
    refine J_bind fun x9 hx9 => ?_
    refine q_J.step (fun g => j_icmp_f rfl (cc_ne_f h5) (j_aload_n rfl rfl (j_gfr rfl hx6 (j_iload rfl rfl (j_lal rfl hx7 (j_aload_n rfl rfl (j_gfr rfl hx8 (j_iload rfl rfl (j_lal rfl hx9 (j_lcmp rfl (g))))))))))) ?_
    refine J_ite (fun h10 => ?_) (fun h10 => ?_)
    · refine J_bind fun w11 hw11 => ?_
      refine J_cl fun x13 σ12 hσ12 => ?_
      refine q_J.step (fun g => j_if_f rfl (lc_ne_f h10) (j_aload_n rfl rfl (j_iload rfl rfl (j_iload rfl rfl (j_v1 [.ref v0, .int (((12 : Int32) * v1) + v2), .int (((12 : Int32) * v3) + v4)] [] rfl rfl rfl rfl rfl rfl hw11 (Or.inl rfl) (t_Mo_kinOf (by omega) hσ12) (j_iconst (2 : Int32) rfl k32_2 (g))))))) ?_
      refine J_ite (fun h14 => ?_) (fun h14 => ?_)
      · refine J_bind fun w15 hw15 => ?_
        refine J_cl fun x17 σ16 hσ16 => ?_
        refine J_bind fun w18 hw18 => ?_
        refine J_cl fun x20 σ19 hσ19 => ?_
        refine q_J.step (fun g => j_icmp_f rfl (cc_ne_f h14) (j_aload_n rfl rfl (j_iload_n rfl rfl (j_iload_n rfl rfl (j_v1 [.ref v0, .int v1, .int v2] [] rfl rfl rfl rfl rfl rfl hw15 (Or.inl rfl) (t_Mo_firstBorn (by omega) hσ16) (j_aload_n rfl rfl (j_iload_n rfl rfl (j_iload rfl rfl (j_v1 [.ref v0, .int v3, .int v4] [.int x17] rfl rfl rfl rfl rfl rfl hw18 (Or.inl rfl) (t_Mo_lastBorn (by omega) hσ19) (g)))))))))) ?_
        refine J_ite (fun h21 => ?_) (fun h21 => ?_)
        · exact J_some (fun h => j_icmp_t rfl (cc_gt_t h21) (j_iconst (0 : Int32) rfl k32_0 (j_iret rfl (q_zr (Or.inl rfl)) h)))
        refine J_bind fun w22 hw22 => ?_
        refine J_cl fun x24 σ23 hσ23 => ?_
        refine J_bind fun w25 hw25 => ?_
        refine J_cl fun x27 σ26 hσ26 => ?_
        refine q_J.step (fun g => j_icmp_f rfl (cc_gt_f h21) (j_aload_n rfl rfl (j_iload_n rfl rfl (j_iload rfl rfl (j_v1 [.ref v0, .int v3, .int v4] [] rfl rfl rfl rfl rfl rfl hw22 (Or.inl rfl) (t_Mo_firstBorn (by omega) hσ23) (j_aload_n rfl rfl (j_iload_n rfl rfl (j_iload_n rfl rfl (j_v1 [.ref v0, .int v1, .int v2] [.int x24] rfl rfl rfl rfl rfl rfl hw25 (Or.inl rfl) (t_Mo_lastBorn (by omega) hσ26) (g)))))))))) ?_
        refine J_ite (fun h28 => ?_) (fun h28 => ?_)
        · exact J_some (fun h => j_icmp_t rfl (cc_gt_t h28) (j_iconst (0 : Int32) rfl k32_0 (j_iret rfl (q_zr (Or.inl rfl)) h)))
        exact J_some (fun h => j_icmp_f rfl (cc_gt_f h28) (j_iconst (1 : Int32) rfl k32_1 (j_goto rfl (j_iret rfl (q_zr (Or.inr rfl)) h))))
      exact J_some (fun h => j_icmp_t rfl (cc_ne_t h14) (j_iconst (0 : Int32) rfl k32_0 (j_iret rfl (q_zr (Or.inl rfl)) h)))
    exact J_some (fun h => j_if_t rfl (lc_ne_t h10) (j_iconst (0 : Int32) rfl k32_0 (j_iret rfl (q_zr (Or.inl rfl)) h)))
  exact J_some (fun h => j_icmp_t rfl (cc_ne_t h5) (j_iconst (0 : Int32) rfl k32_0 (j_iret rfl (q_zr (Or.inl rfl)) h)))
theorem t_Mo_isOne {fo : Option Nat} {d : Nat} (hd : 3 ≤ d) {v0 : Nat} {v1 : Int32} {v2 : Int32} {v3 : Int32} {v4 : Int32} {σ σ1 : q_H} {r : Int32} (h : f_Mo_isOne v0 v1 v2 v3 v4 σ = some (r, σ1)) : q_Rel (q_rf fo) q_Ms d 221 [.ref v0, .int v1, .int v2, .int v3, .int v4] σ (.inl (some (.int r))) σ1 := by
  obtain ⟨d, rfl⟩ : ∃ d1, d = d1 + 1 := ⟨d - 1, by omega⟩
  exact q_Rel.of rfl rfl (b_Mo_isOne hd _ _ _ _ _ σ _ _ h ⟨rfl, rfl⟩)

set_option maxRecDepth 100000 in
theorem b_Mo_could {fo : Option Nat} {d : Nat} (hd : 3 ≤ d + 1) {o : q_O} {σ' : q_H} (v0 : Nat) (v1 : Int32) (v2 : Int32) (v3 : Int32) (v4 : Int32) (σ : q_H) : q_J (fun (r : Int64) (σ1 : q_H) => o = .inl (some (.long r)) ∧ σ' = σ1) (f_Mo_could v0 v1 v2 v3 v4 σ) (q_G (q_rf fo) d m_Mo_could o σ' 0 [some (.ref v0), some (.int v1), some (.int v2), some (.int v3), some (.int v4), none, none] [] σ) := by
  unfold f_Mo_could
  refine J_bind fun σ1 hσ1 => ?_
  refine J_cl fun x3 σ2 hσ2 => ?_
  refine q_J.step (fun g => j_aload_n rfl rfl (j_iconst (0 : Int32) rfl k32_0 (j_putf rfl rfl rfl rfl hσ1 (j_iload_n rfl rfl (j_s1 [.int v1] [] rfl rfl rfl rfl rfl (t_Mo_isTable (by omega) hσ2) (g)))))) ?_
  refine J_ite (fun h4 => ?_) (fun h4 => ?_)
  · exact J_some (fun h => j_if_t rfl (cc_eq_t h4) (j_ldc2 (-1 : Int64) rfl kw_m1 (j_lret rfl rfl h)))
  refine J_cl fun x6 σ5 hσ5 => ?_
  refine q_J.step (fun g => j_if_f rfl (cc_eq_f h4) (j_iload_n rfl rfl (j_iconst (0 : Int32) rfl k32_0 (j_bipush (120 : Int32) rfl kb_120 (j_s1 [.int v2, .int (0 : Int32), .int (120 : Int32)] [] rfl rfl rfl rfl rfl (t_Mo_within (by omega) hσ5) (g)))))) ?_
  refine J_ite (fun h7 => ?_) (fun h7 => ?_)
  · exact J_some (fun h => j_if_t rfl (cc_eq_t h7) (j_ldc2 (-1 : Int64) rfl kw_m1 (j_lret rfl rfl h)))
  refine J_cl fun x9 σ8 hσ8 => ?_
  refine q_J.step (fun g => j_if_f rfl (cc_eq_f h7) (j_iload_n rfl rfl (j_iconst (0 : Int32) rfl k32_0 (j_bipush (30 : Int32) rfl kb_30 (j_s1 [.int v3, .int (0 : Int32), .int (30 : Int32)] [] rfl rfl rfl rfl rfl (t_Mo_within (by omega) hσ8) (g)))))) ?_
  refine J_ite (fun h10 => ?_) (fun h10 => ?_)
  · exact J_some (fun h => j_if_t rfl (cc_eq_t h10) (j_ldc2 (-1 : Int64) rfl kw_m1 (j_lret rfl rfl h)))
  refine J_cl fun x12 σ11 hσ11 => ?_
  refine q_J.step (fun g => j_if_f rfl (cc_eq_f h10) (j_iload rfl rfl (j_iconst (0 : Int32) rfl k32_0 (j_iconst (1 : Int32) rfl k32_1 (j_s1 [.int v4, .int (0 : Int32), .int (1 : Int32)] [] rfl rfl rfl rfl rfl (t_Mo_within (by omega) hσ11) (g)))))) ?_
  refine J_ite (fun h13 => ?_) (fun h13 => ?_)
  · exact J_some (fun h => j_if_f rfl (cc_ne_f h13) (j_ldc2 (-1 : Int64) rfl kw_m1 (j_lret rfl rfl h)))
  refine J_bind fun w14 hw14 => ?_
  refine J_cl fun x16 σ15 hσ15 => ?_
  refine J_bind fun x17 hx17 => ?_
  refine J_cl fun x19 σ18 hσ18 => ?_
  exact J_some (fun h => j_if_t rfl (cc_ne_t h13) (j_aload_n rfl rfl (j_iload_n rfl rfl (j_iload_n rfl rfl (j_iload_n rfl rfl (j_v1 [.ref v0, .int v1, .int v2, .int v3] [] rfl rfl rfl rfl rfl rfl hw14 (Or.inl rfl) (t_Mo_couldOf (by omega) hσ15) (j_lstore [some (.ref v0), some (.int v1), some (.int v2), some (.int v3), some (.int v4), some (.long x16), none] rfl rfl (Or.inr rfl) rfl (j_lload rfl rfl (j_aload_n rfl rfl (j_gfl rfl hx17 (j_iload rfl rfl (j_s1 [.long x16, .long x17, .int v4] [] rfl rfl rfl rfl rfl (t_Mo_lowest (by omega) hσ18) (j_lret rfl rfl h)))))))))))))
theorem t_Mo_could {fo : Option Nat} {d : Nat} (hd : 3 ≤ d) {v0 : Nat} {v1 : Int32} {v2 : Int32} {v3 : Int32} {v4 : Int32} {σ σ1 : q_H} {r : Int64} (h : f_Mo_could v0 v1 v2 v3 v4 σ = some (r, σ1)) : q_Rel (q_rf fo) q_Ms d 243 [.ref v0, .int v1, .int v2, .int v3, .int v4] σ (.inl (some (.long r))) σ1 := by
  obtain ⟨d, rfl⟩ : ∃ d1, d = d1 + 1 := ⟨d - 1, by omega⟩
  exact q_Rel.of rfl rfl (b_Mo_could hd _ _ _ _ _ σ _ _ h ⟨rfl, rfl⟩)

