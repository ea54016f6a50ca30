/-! Methods of the reference: walks. -/
set_option maxRecDepth 100000 in
theorem l_Mo_best_L21 {fo : Option Nat} {d : Nat} (hd : 5 ≤ d + 1) {o : q_O} {σ' : q_H} {E : (Int32) → q_H → Prop} (v0 : Nat) (v1 : Int32) (hX : ∀ (t : Int32) σ1, E (t) σ1 → q_G (q_rf fo) d m_Mo_best o σ' 54 [none, none, some (.int t), none] [] σ1)  : ∀ (n : Nat) (v2 : Int32) (v3 : Int32) (σ : q_H), q_J E (f_Mo_best_L21 v0 v1 n v2 v3 σ) (q_G (q_rf fo) d m_Mo_best o σ' 21 [some (.ref v0), some (.int v1), some (.int v2), some (.int v3)] [] σ)
  | 0, v2, v3, σ => J_none
  | n + 1, v2, v3, σ => by
    unfold f_Mo_best_L21
    refine q_J.step (fun g => j_iload_n rfl rfl (j_iconst (4 : Int32) rfl k32_4 (g))) ?_
    refine J_ite (fun h1 => ?_) (fun h1 => ?_)
    · refine J_bind fun w2 hw2 => ?_
      refine J_cl fun x4 σ3 hσ3 => ?_
      refine J_bind fun w5 hw5 => ?_
      refine J_cl fun x7 σ6 hσ6 => ?_
      refine q_J.step (fun g => j_icmp_f rfl (cc_ge_f h1) (j_aload_n rfl rfl (j_iload_n rfl rfl (j_iload_n rfl rfl (j_v1 [.ref v0, .int v3, .int v1] [] rfl rfl rfl rfl rfl rfl hw2 (Or.inl rfl) (t_Mo_fitOf (by omega) hσ3) (j_aload_n rfl rfl (j_iload_n rfl rfl (j_iload_n rfl rfl (j_v1 [.ref v0, .int v2, .int v1] [.long x4] rfl rfl rfl rfl rfl rfl hw5 (Or.inl rfl) (t_Mo_fitOf (by omega) hσ6) (j_lcmp rfl (g))))))))))) ?_
      refine J_ite (fun h8 => ?_) (fun h8 => ?_)
      · exact q_J.step (fun g => j_if_f rfl (lc_ge_f h8) (j_iload_n rfl rfl (j_goto rfl (j_istore_n [some (.ref v0), some (.int v1), some (.int v3), some (.int v3)] rfl rfl (Or.inr rfl) rfl (j_iinc [some (.ref v0), some (.int v1), some (.int v3), some (.int (v3 + (1 : Int32)))] (v3 + (1 : Int32)) rfl rfl (by rw [k32_1]) (Or.inr rfl) rfl (j_goto rfl (g))))))) (l_Mo_best_L21 hd v0 v1 hX n v3 (v3 + (1 : Int32)) σ6)
      exact q_J.step (fun g => j_if_t rfl (lc_ge_t h8) (j_iload_n rfl rfl (j_istore_n [some (.ref v0), some (.int v1), some (.int v2), some (.int v3)] rfl rfl (Or.inr rfl) rfl (j_iinc [some (.ref v0), some (.int v1), some (.int v2), some (.int (v3 + (1 : Int32)))] (v3 + (1 : Int32)) rfl rfl (by rw [k32_1]) (Or.inr rfl) rfl (j_goto rfl (g)))))) (l_Mo_best_L21 hd v0 v1 hX n v2 (v3 + (1 : Int32)) σ6)
    exact J_some (fun h => j_icmp_t rfl (cc_ge_t h1) (j_weak (l := [none, none, some (.int v2), none]) (And.intro (Or.inl rfl) (And.intro (Or.inl rfl) (And.intro (Or.inr rfl) (And.intro (Or.inl rfl) True.intro)))) (hX _ _ h)))

set_option maxRecDepth 100000 in
theorem b_Mo_best {fo : Option Nat} {d : Nat} (hd : 5 ≤ d + 1) {o : q_O} {σ' : q_H} (v0 : Nat) (v1 : Int32) (σ : q_H) : q_J (fun (r : Int32) (σ1 : q_H) => o = .inl (some (.int r)) ∧ σ' = σ1) (f_Mo_best v0 v1 σ) (q_G (q_rf fo) d m_Mo_best o σ' 0 [some (.ref v0), some (.int v1), none, none] [] σ) := by
  unfold f_Mo_best
  refine J_bind fun σ1 hσ1 => ?_
  refine J_cl fun x3 σ2 hσ2 => ?_
  refine q_J.step (fun g => j_aload_n rfl rfl (j_iconst (0 : Int32) rfl k32_0 (j_putf rfl rfl rfl rfl hσ1 (j_iload_n rfl rfl (j_iconst (0 : Int32) rfl k32_0 (j_bipush (16 : Int32) rfl kb_16 (j_s1 [.int v1, .int (0 : Int32), .int (16 : Int32)] [] rfl rfl rfl rfl rfl (t_Mo_within (by omega) hσ2) (g)))))))) ?_
  refine J_ite (fun h4 => ?_) (fun h4 => ?_)
  · exact J_some (fun h => j_if_f rfl (cc_ne_f h4) (j_iconst (-1 : Int32) rfl k32_m1 (j_iret rfl rfl h)))
  refine J_sq (fun (t5 : Int32) (σ6 : q_H) => q_G (q_rf fo) d m_Mo_best o σ' 54 [none, none, some (.int t5), none] [] σ6) (q_J.step (fun g => j_if_t rfl (cc_ne_t h4) (j_iconst (0 : Int32) rfl k32_0 (j_istore_n [some (.ref v0), some (.int v1), some (.int (0 : Int32)), none] rfl rfl (Or.inr rfl) rfl (j_iconst (1 : Int32) rfl k32_1 (j_istore_n [some (.ref v0), some (.int v1), some (.int (0 : Int32)), some (.int (1 : Int32))] rfl rfl (Or.inr rfl) rfl (g)))))) (l_Mo_best_L21 hd v0 v1 (fun _ _ h => h) q_FU (0 : Int32) (1 : Int32) σ2)) (fun t5 σ6 => ?_)
  exact J_some (fun h => j_iload_n rfl rfl (j_iret rfl rfl h))
theorem t_Mo_best {fo : Option Nat} {d : Nat} (hd : 5 ≤ d) {v0 : Nat} {v1 : Int32} {σ σ1 : q_H} {r : Int32} (h : f_Mo_best v0 v1 σ = some (r, σ1)) : q_Rel (q_rf fo) q_Ms d 240 [.ref v0, .int v1] σ (.inl (some (.int r))) σ1 := by
  obtain ⟨d, rfl⟩ : ∃ d1, d = d1 + 1 := ⟨d - 1, by omega⟩
  exact q_Rel.of rfl rfl (b_Mo_best hd _ _ σ _ _ h ⟨rfl, rfl⟩)

set_option maxRecDepth 100000 in
theorem l_Mo_law_L44 {fo : Option Nat} {d : Nat} (hd : 5 ≤ d + 1) {o : q_O} {σ' : q_H} {E : (Unit) → q_H → Prop} (v0 : Nat) (v1 : Int32) (hX : ∀ (t : Unit) σ1, E (t) σ1 → q_G (q_rf fo) d m_Mo_law o σ' 116 [some (.ref v0), some (.int v1), none] [] σ1)  : ∀ (n : Nat) (v2 : Int32) (σ : q_H), q_J E (f_Mo_law_L44 v0 v1 n v2 σ) (q_G (q_rf fo) d m_Mo_law o σ' 44 [some (.ref v0), some (.int v1), some (.int v2)] [] σ)
  | 0, v2, σ => J_none
  | n + 1, v2, σ => by
    unfold f_Mo_law_L44
    refine q_J.step (fun g => j_iload_n rfl rfl (j_bipush (6 : Int32) rfl kb_6 (g))) ?_
    refine J_ite (fun h1 => ?_) (fun h1 => ?_)
    · refine J_bind fun x2 hx2 => ?_
      refine J_bind fun x3 hx3 => ?_
      refine J_bind fun x4 hx4 => ?_
      refine J_bind fun σ5 hσ5 => ?_
      refine J_bind fun x6 hx6 => ?_
      refine J_bind fun x7 hx7 => ?_
      refine J_bind fun x8 hx8 => ?_
      refine J_bind fun σ9 hσ9 => ?_
      exact q_J.step (fun g => j_icmp_f rfl (cc_ge_f h1) (j_aload_n rfl rfl (j_gfr rfl hx2 (j_bipush (6 : Int32) rfl kb_6 (j_iload_n rfl rfl (j_imul rfl (j_iload_n rfl rfl (j_iadd rfl (j_aload_n rfl rfl (j_gfr rfl hx3 (j_bipush (24 : Int32) rfl kb_24 (j_iload_n rfl rfl (j_iadd rfl (j_ial rfl hx4 (j_sipush (4000 : Int32) rfl ks_4000 (j_isub rfl (j_sipush (1000 : Int32) rfl ks_1000 (j_iload_n rfl rfl (j_imul rfl (j_iadd rfl (j_ias rfl hσ5 (j_aload_n rfl rfl (j_gfr rfl hx6 (j_bipush (6 : Int32) rfl kb_6 (j_iload_n rfl rfl (j_imul rfl (j_iload_n rfl rfl (j_iadd rfl (j_aload_n rfl rfl (j_gfr rfl hx7 (j_bipush (24 : Int32) rfl kb_24 (j_iload_n rfl rfl (j_iadd rfl (j_ial rfl hx8 (j_sipush (4000 : Int32) rfl ks_4000 (j_isub rfl (j_sipush (1000 : Int32) rfl ks_1000 (j_iload_n rfl rfl (j_imul rfl (j_iadd rfl (j_ias rfl hσ9 (j_iinc [some (.ref v0), some (.int v1), some (.int (v2 + (1 : Int32)))] (v2 + (1 : Int32)) rfl rfl (by rw [k32_1]) (Or.inr rfl) rfl (j_goto rfl (g)))))))))))))))))))))))))))))))))))))))))))) (l_Mo_law_L44 hd v0 v1 hX n (v2 + (1 : Int32)) σ9)
    exact J_some (fun h => j_icmp_t rfl (cc_ge_t h1) (j_weak (l := [some (.ref v0), some (.int v1), none]) (And.intro (Or.inr rfl) (And.intro (Or.inr rfl) (And.intro (Or.inl rfl) True.intro))) (hX _ _ h)))

set_option maxRecDepth 100000 in
theorem l_Mo_law_L118 {fo : Option Nat} {d : Nat} (hd : 5 ≤ d + 1) {o : q_O} {σ' : q_H} {E : (Unit) → q_H → Prop} (v0 : Nat) (v1 : Int32) (hX : ∀ (t : Unit) σ1, E (t) σ1 → q_G (q_rf fo) d m_Mo_law o σ' 153 [none, none, none] [] σ1)  : ∀ (n : Nat) (v2 : Int32) (σ : q_H), q_J E (f_Mo_law_L118 v0 v1 n v2 σ) (q_G (q_rf fo) d m_Mo_law o σ' 118 [some (.ref v0), some (.int v1), some (.int v2)] [] σ)
  | 0, v2, σ => J_none
  | n + 1, v2, σ => by
    unfold f_Mo_law_L118
    refine q_J.step (fun g => j_iload_n rfl rfl (j_sipush (1000 : Int32) rfl ks_1000 (g))) ?_
    refine J_ite (fun h1 => ?_) (fun h1 => ?_)
    · refine J_bind fun x2 hx2 => ?_
      refine J_bind fun x3 hx3 => ?_
      refine J_bind fun x4 hx4 => ?_
      refine J_bind fun σ5 hσ5 => ?_
      exact q_J.step (fun g => j_icmp_f rfl (cc_ge_f h1) (j_aload_n rfl rfl (j_gfr rfl hx2 (j_sipush (1000 : Int32) rfl ks_1000 (j_iload_n rfl rfl (j_imul rfl (j_iload_n rfl rfl (j_iadd rfl (j_aload_n rfl rfl (j_gfr rfl hx3 (j_sipush (4000 : Int32) rfl ks_4000 (j_iload_n rfl rfl (j_iadd rfl (j_ial rfl hx4 (j_ias rfl hσ5 (j_iinc [some (.ref v0), some (.int v1), some (.int (v2 + (1 : Int32)))] (v2 + (1 : Int32)) rfl rfl (by rw [k32_1]) (Or.inr rfl) rfl (j_goto rfl (g)))))))))))))))))) (l_Mo_law_L118 hd v0 v1 hX n (v2 + (1 : Int32)) σ5)
    exact J_some (fun h => j_icmp_t rfl (cc_ge_t h1) (j_weak (l := [none, none, none]) (And.intro (Or.inl rfl) (And.intro (Or.inl rfl) (And.intro (Or.inl rfl) True.intro))) (hX _ _ h)))

set_option maxRecDepth 100000 in
theorem b_Mo_law {fo : Option Nat} {d : Nat} (hd : 5 ≤ d + 1) {o : q_O} {σ' : q_H} (v0 : Nat) (v1 : Int32) (σ : q_H) : q_J (fun (r : Int32) (σ1 : q_H) => o = .inl (some (.int r)) ∧ σ' = σ1) (f_Mo_law v0 v1 σ) (q_G (q_rf fo) d m_Mo_law o σ' 0 [some (.ref v0), some (.int v1), none] [] σ) := by
  unfold f_Mo_law
  refine J_bind fun σ1 hσ1 => ?_
  refine J_bind fun w2 hw2 => ?_
  refine J_cl fun _ σ3 hσ3 => ?_
  refine J_cl fun x6 σ5 hσ5 => ?_
  refine q_J.step (fun g => j_aload_n rfl rfl (j_iconst (0 : Int32) rfl k32_0 (j_putf rfl rfl rfl rfl hσ1 (j_aload_n rfl rfl (j_v0 [.ref v0] [] rfl rfl rfl rfl rfl rfl hw2 (Or.inl rfl) (t_Mo_starts (by omega) hσ3) (j_iload_n rfl rfl (j_s1 [.int v1] [] rfl rfl rfl rfl rfl (t_Mo_isTable (by omega) hσ5) (g)))))))) ?_
  refine J_ite (fun h7 => ?_) (fun h7 => ?_)
  · exact J_some (fun h => j_if_f rfl (cc_ne_f h7) (j_iconst (-1 : Int32) rfl k32_m1 (j_iret rfl rfl h)))
  refine J_bind fun w8 hw8 => ?_
  refine J_cl fun x10 σ9 hσ9 => ?_
  refine q_J.step (fun g => j_if_t rfl (cc_ne_t h7) (j_aload_n rfl rfl (j_v1 [.ref v0] [] rfl rfl rfl rfl rfl rfl hw8 (Or.inl rfl) (t_Mo_readsLaw (by omega) hσ9) (g)))) ?_
  refine J_ite (fun h11 => ?_) (fun h11 => ?_)
  · refine J_bind fun x12 hx12 => ?_
    exact J_some (fun h => j_if_f rfl (cc_ne_f h11) (j_aload_n rfl rfl (j_gfi rfl hx12 (j_iret rfl rfl h))))
  refine J_bind fun x13 hx13 => ?_
  refine J_bind fun x14 hx14 => ?_
  refine J_bind fun x15 hx15 => ?_
  refine J_bind fun σ16 hσ16 => ?_
  refine J_sq (fun (t17 : Unit) (σ18 : q_H) => q_G (q_rf fo) d m_Mo_law o σ' 116 [some (.ref v0), some (.int v1), none] [] σ18) (q_J.step (fun g => j_if_t rfl (cc_ne_t h11) (j_aload_n rfl rfl (j_gfr rfl hx13 (j_iload_n rfl rfl (j_aload_n rfl rfl (j_gfr rfl hx14 (j_iconst (4 : Int32) rfl k32_4 (j_ial rfl hx15 (j_ias rfl hσ16 (j_iconst (0 : Int32) rfl k32_0 (j_istore_n [some (.ref v0), some (.int v1), some (.int (0 : Int32))] rfl rfl (Or.inr rfl) rfl (g)))))))))))) (l_Mo_law_L44 hd v0 v1 (fun _ _ h => h) q_FU (0 : Int32) σ16)) (fun t17 σ18 => ?_)
  refine J_sq (fun (t19 : Unit) (σ20 : q_H) => q_G (q_rf fo) d m_Mo_law o σ' 153 [none, none, none] [] σ20) (q_J.step (fun g => j_iconst (0 : Int32) rfl k32_0 (j_istore_n [some (.ref v0), some (.int v1), some (.int (0 : Int32))] rfl rfl (Or.inr rfl) rfl (g))) (l_Mo_law_L118 hd v0 v1 (fun _ _ h => h) q_FU (0 : Int32) σ18)) (fun t19 σ20 => ?_)
  exact J_some (fun h => j_iconst (0 : Int32) rfl k32_0 (j_iret rfl rfl h))
theorem t_Mo_law {fo : Option Nat} {d : Nat} (hd : 5 ≤ d) {v0 : Nat} {v1 : Int32} {σ σ1 : q_H} {r : Int32} (h : f_Mo_law v0 v1 σ = some (r, σ1)) : q_Rel (q_rf fo) q_Ms d 248 [.ref v0, .int v1] σ (.inl (some (.int r))) σ1 := by
  obtain ⟨d, rfl⟩ : ∃ d1, d = d1 + 1 := ⟨d - 1, by omega⟩
  exact q_Rel.of rfl rfl (b_Mo_law hd _ _ σ _ _ h ⟨rfl, rfl⟩)

set_option maxRecDepth 100000 in
theorem b_Mo_sort {fo : Option Nat} {d : Nat} (hd : 6 ≤ d + 1) {o : q_O} {σ' : q_H} (v0 : Nat) (v1 : Int32) (v2 : Int32) (σ : q_H) : q_J (fun (r : Int32) (σ1 : q_H) => o = .inl (some (.int r)) ∧ σ' = σ1) (f_Mo_sort v0 v1 v2 σ) (q_G (q_rf fo) d m_Mo_sort o σ' 0 [some (.ref v0), some (.int v1), some (.int v2)] [] σ) := by
  unfold f_Mo_sort
  refine J_bind fun σ1 hσ1 => ?_
  refine J_bind fun w2 hw2 => ?_
  refine J_cl fun x4 σ3 hσ3 => ?_
  refine q_J.step (fun g => j_aload_n rfl rfl (j_iconst (0 : Int32) rfl k32_0 (j_putf rfl rfl rfl rfl hσ1 (j_aload_n rfl rfl (j_iload_n rfl rfl (j_iload_n rfl rfl (j_v1 [.ref v0, .int v1, .int v2] [] rfl rfl rfl rfl rfl rfl hw2 (Or.inl rfl) (t_Mo_isWife (by omega) hσ3) (g)))))))) ?_
  refine J_ite (fun h5 => ?_) (fun h5 => ?_)
  · exact J_some (fun h => j_if_t rfl (cc_eq_t h5) (j_iconst (-1 : Int32) rfl k32_m1 (j_iret rfl rfl h)))
  refine J_bind fun w6 hw6 => ?_
  refine J_cl fun x8 σ7 hσ7 => ?_
  exact J_some (fun h => j_if_f rfl (cc_eq_f h5) (j_aload_n rfl rfl (j_iload_n rfl rfl (j_iload_n rfl rfl (j_v1 [.ref v0, .int v1, .int v2] [] rfl rfl rfl rfl rfl rfl hw6 (Or.inl rfl) (t_Mo_sortOf (by omega) hσ7) (j_goto rfl (j_iret rfl rfl h)))))))
theorem t_Mo_sort {fo : Option Nat} {d : Nat} (hd : 6 ≤ d) {v0 : Nat} {v1 : Int32} {v2 : Int32} {σ σ1 : q_H} {r : Int32} (h : f_Mo_sort v0 v1 v2 σ = some (r, σ1)) : q_Rel (q_rf fo) q_Ms d 199 [.ref v0, .int v1, .int v2] σ (.inl (some (.int r))) σ1 := by
  obtain ⟨d, rfl⟩ : ∃ d1, d = d1 + 1 := ⟨d - 1, by omega⟩
  exact q_Rel.of rfl rfl (b_Mo_sort hd _ _ _ σ _ _ h ⟨rfl, rfl⟩)

set_option maxRecDepth 100000 in
theorem l_Mo_countOf_L36 {fo : Option Nat} {d : Nat} (hd : 6 ≤ d + 1) {o : q_O} {σ' : q_H} {E : (Int32) → q_H → Prop} (v0 : Nat) (v1 : Int32) (v2 : Int32) (v3 : Int32) (v4 : Int32) (v5 : Int32) (v7 : Int32) (hX : ∀ (t : Int32) σ1, E (t) σ1 → q_G (q_rf fo) d m_Mo_countOf o σ' 105 [some (.ref v0), some (.int v1), some (.int v2), some (.int v3), some (.int v4), some (.int v5), some (.int t), some (.int v7), none] [] σ1)  : ∀ (n : Nat) (v6 : Int32) (v8 : Int32) (σ : q_H), q_J E (f_Mo_countOf_L36 v0 v1 v2 v3 v4 v5 v7 n v6 v8 σ) (q_G (q_rf fo) d m_Mo_countOf o σ' 36 [some (.ref v0), some (.int v1), some (.int v2), some (.int v3), some (.int v4), some (.int v5), some (.int v6), some (.int v7), some (.int v8)] [] σ)
  | 0, v6, v8, σ => J_none
  | n + 1, v6, v8, σ => by
    unfold f_Mo_countOf_L36
    refine J_bind fun x1 hx1 => ?_
    refine J_bind fun x2 hx2 => ?_
    refine q_J.step (fun g => j_iload rfl rfl (j_aload_n rfl rfl (j_gfr rfl hx1 (j_iload rfl rfl (j_ial rfl hx2 (g)))))) ?_
    refine J_ite (fun h3 => ?_) (fun h3 => ?_)
    · refine J_bind fun w4 hw4 => ?_
      refine J_cl fun x6 σ5 hσ5 => ?_
      refine q_J.step (fun g => j_icmp_f rfl (cc_ge_f h3) (j_iload rfl rfl (j_aload_n rfl rfl (j_iload rfl rfl (j_iload rfl rfl (j_v1 [.ref v0, .int v7, .int v8] [.int v6] rfl rfl rfl rfl rfl rfl hw4 (Or.inl rfl) (t_Mo_isWife (by omega) hσ5) (g))))))) ?_
      refine J_ite (fun h7 => ?_) (fun h7 => ?_)
      · exact q_J.step (fun g => j_if_t rfl (cc_eq_t h7) (j_iconst (0 : Int32) rfl k32_0 (j_iadd rfl (j_istore [some (.ref v0), some (.int v1), some (.int v2), some (.int v3), some (.int v4), some (.int v5), some (.int (v6 + (0 : Int32))), some (.int v7), some (.int v8)] rfl rfl (Or.inr rfl) rfl (j_iinc [some (.ref v0), some (.int v1), some (.int v2), some (.int v3), some (.int v4), some (.int v5), some (.int (v6 + (0 : Int32))), some (.int v7), some (.int (v8 + (1 : Int32)))] (v8 + (1 : Int32)) rfl rfl (by rw [k32_1]) (Or.inr rfl) rfl (j_goto rfl (g))))))) (l_Mo_countOf_L36 hd v0 v1 v2 v3 v4 v5 v7 hX n (v6 + (0 : Int32)) (v8 + (1 : Int32)) σ5)
      refine J_bind fun w8 hw8 => ?_
      refine J_cl fun x10 σ9 hσ9 => ?_
      refine q_J.step (fun g => j_if_f rfl (cc_eq_f h7) (j_iload rfl rfl (j_aload_n rfl rfl (j_iload rfl rfl (j_iload rfl rfl (j_v1 [.ref v0, .int v7, .int v8] [.int v4, .int v6] rfl rfl rfl rfl rfl rfl hw8 (Or.inl rfl) (t_Mo_sortOf (by omega) hσ9) (j_ishr rfl (j_iconst (1 : Int32) rfl k32_1 (j_iand rfl (j_iconst (1 : Int32) rfl k32_1 (g))))))))))) ?_
      refine J_ite (fun h11 => ?_) (fun h11 => ?_)
      · refine J_bind fun w12 hw12 => ?_
        refine J_cl fun x14 σ13 hσ13 => ?_
        refine q_J.step (fun g => j_icmp_f rfl (cc_ne_f h11) (j_aload_n rfl rfl (j_iload rfl rfl (j_iload rfl rfl (j_v1 [.ref v0, .int v7, .int v8] [.int v6] rfl rfl rfl rfl rfl rfl hw12 (Or.inl rfl) (t_Mo_takenOf (by omega) hσ13) (j_iload rfl rfl (g))))))) ?_
        refine J_ite (fun h15 => ?_) (fun h15 => ?_)
        · exact q_J.step (fun g => j_icmp_t rfl (cc_gt_t h15) (j_iconst (0 : Int32) rfl k32_0 (j_iadd rfl (j_istore [some (.ref v0), some (.int v1), some (.int v2), some (.int v3), some (.int v4), some (.int v5), some (.int (v6 + (0 : Int32))), some (.int v7), some (.int v8)] rfl rfl (Or.inr rfl) rfl (j_iinc [some (.ref v0), some (.int v1), some (.int v2), some (.int v3), some (.int v4), some (.int v5), some (.int (v6 + (0 : Int32))), some (.int v7), some (.int (v8 + (1 : Int32)))] (v8 + (1 : Int32)) rfl rfl (by rw [k32_1]) (Or.inr rfl) rfl (j_goto rfl (g))))))) (l_Mo_countOf_L36 hd v0 v1 v2 v3 v4 v5 v7 hX n (v6 + (0 : Int32)) (v8 + (1 : Int32)) σ13)
        exact q_J.step (fun g => j_icmp_f rfl (cc_gt_f h15) (j_iconst (1 : Int32) rfl k32_1 (j_goto rfl (j_iadd rfl (j_istore [some (.ref v0), some (.int v1), some (.int v2), some (.int v3), some (.int v4), some (.int v5), some (.int (v6 + (1 : Int32))), some (.int v7), some (.int v8)] rfl rfl (Or.inr rfl) rfl (j_iinc [some (.ref v0), some (.int v1), some (.int v2), some (.int v3), some (.int v4), some (.int v5), some (.int (v6 + (1 : Int32))), some (.int v7), some (.int (v8 + (1 : Int32)))] (v8 + (1 : Int32)) rfl rfl (by rw [k32_1]) (Or.inr rfl) rfl (j_goto rfl (g)))))))) (l_Mo_countOf_L36 hd v0 v1 v2 v3 v4 v5 v7 hX n (v6 + (1 : Int32)) (v8 + (1 : Int32)) σ13)
      exact q_J.step (fun g => j_icmp_t rfl (cc_ne_t h11) (j_iconst (0 : Int32) rfl k32_0 (j_iadd rfl (j_istore [some (.ref v0), some (.int v1), some (.int v2), some (.int v3), some (.int v4), some (.int v5), some (.int (v6 + (0 : Int32))), some (.int v7), some (.int v8)] rfl rfl (Or.inr rfl) rfl (j_iinc [some (.ref v0), some (.int v1), some (.int v2), some (.int v3), some (.int v4), some (.int v5), some (.int (v6 + (0 : Int32))), some (.int v7), some (.int (v8 + (1 : Int32)))] (v8 + (1 : Int32)) rfl rfl (by rw [k32_1]) (Or.inr rfl) rfl (j_goto rfl (g))))))) (l_Mo_countOf_L36 hd v0 v1 v2 v3 v4 v5 v7 hX n (v6 + (0 : Int32)) (v8 + (1 : Int32)) σ9)
    exact J_some (fun h => j_icmp_t rfl (cc_ge_t h3) (j_weak (l := [some (.ref v0), some (.int v1), some (.int v2), some (.int v3), some (.int v4), some (.int v5), some (.int v6), some (.int v7), none]) (And.intro (Or.inr rfl) (And.intro (Or.inr rfl) (And.intro (Or.inr rfl) (And.intro (Or.inr rfl) (And.intro (Or.inr rfl) (And.intro (Or.inr rfl) (And.intro (Or.inr rfl) (And.intro (Or.inr rfl) (And.intro (Or.inl rfl) True.intro))))))))) (hX _ _ h)))

set_option maxRecDepth 100000 in
theorem l_Mo_countOf_L6 {fo : Option Nat} {d : Nat} (hd : 6 ≤ d + 1) {o : q_O} {σ' : q_H} {E : (Int32) → q_H → Prop} (v0 : Nat) (v1 : Int32) (v2 : Int32) (v3 : Int32) (v4 : Int32) (v5 : Int32) (hX : ∀ (t : Int32) σ1, E (t) σ1 → q_G (q_rf fo) d m_Mo_countOf o σ' 111 [none, none, none, none, none, none, some (.int t), none, none] [] σ1)  : ∀ (n : Nat) (v6 : Int32) (v7 : Int32) (σ : q_H), q_J E (f_Mo_countOf_L6 v0 v1 v2 v3 v4 v5 n v6 v7 σ) (q_G (q_rf fo) d m_Mo_countOf o σ' 6 [some (.ref v0), some (.int v1), some (.int v2), some (.int v3), some (.int v4), some (.int v5), some (.int v6), some (.int v7), none] [] σ)
  | 0, v6, v7, σ => J_none
  | n + 1, v6, v7, σ => by
    unfold f_Mo_countOf_L6
    refine q_J.step (fun g => j_iload rfl rfl (j_bipush (24 : Int32) rfl kb_24 (g))) ?_
    refine J_ite (fun h1 => ?_) (fun h1 => ?_)
    · refine q_J.step (fun g => j_icmp_f rfl (cc_ge_f h1) (j_iload rfl rfl (j_iload_n rfl rfl (g)))) ?_
      refine J_ite (fun h2 => ?_) (fun h2 => ?_)
      · exact q_J.step (fun g => j_icmp_t rfl (cc_eq_t h2) (j_iinc [some (.ref v0), some (.int v1), some (.int v2), some (.int v3), some (.int v4), some (.int v5), some (.int v6), some (.int (v7 + (1 : Int32))), none] (v7 + (1 : Int32)) rfl rfl (by rw [k32_1]) (Or.inr rfl) rfl (j_goto rfl (g)))) (l_Mo_countOf_L6 hd v0 v1 v2 v3 v4 v5 hX n v6 (v7 + (1 : Int32)) σ)
      refine J_bind fun w3 hw3 => ?_
      refine J_cl fun x5 σ4 hσ4 => ?_
      refine q_J.step (fun g => j_icmp_f rfl (cc_eq_f h2) (j_aload_n rfl rfl (j_iload rfl rfl (j_iload_n rfl rfl (j_iload_n rfl rfl (j_v1 [.ref v0, .int v7, .int v1, .int v2] [] rfl rfl rfl rfl rfl rfl hw3 (Or.inl rfl) (t_Mo_isIn (by omega) hσ4) (g))))))) ?_
      refine J_ite (fun h6 => ?_) (fun h6 => ?_)
      · exact q_J.step (fun g => j_if_f rfl (cc_ne_f h6) (j_goto rfl (j_iinc [some (.ref v0), some (.int v1), some (.int v2), some (.int v3), some (.int v4), some (.int v5), some (.int v6), some (.int (v7 + (1 : Int32))), none] (v7 + (1 : Int32)) rfl rfl (by rw [k32_1]) (Or.inr rfl) rfl (j_goto rfl (g))))) (l_Mo_countOf_L6 hd v0 v1 v2 v3 v4 v5 hX n v6 (v7 + (1 : Int32)) σ4)
      refine J_sq (fun (t7 : Int32) (σ8 : q_H) => q_G (q_rf fo) d m_Mo_countOf o σ' 105 [some (.ref v0), some (.int v1), some (.int v2), some (.int v3), some (.int v4), some (.int v5), some (.int t7), some (.int v7), none] [] σ8) (q_J.step (fun g => j_if_t rfl (cc_ne_t h6) (j_iconst (0 : Int32) rfl k32_0 (j_istore [some (.ref v0), some (.int v1), some (.int v2), some (.int v3), some (.int v4), some (.int v5), some (.int v6), some (.int v7), some (.int (0 : Int32))] rfl rfl (Or.inr rfl) rfl (g)))) (l_Mo_countOf_L36 hd v0 v1 v2 v3 v4 v5 v7 (fun _ _ h => h) q_FU v6 (0 : Int32) σ4)) (fun t7 σ8 => ?_)
      exact q_J.step (fun g => j_iinc [some (.ref v0), some (.int v1), some (.int v2), some (.int v3), some (.int v4), some (.int v5), some (.int t7), some (.int (v7 + (1 : Int32))), none] (v7 + (1 : Int32)) rfl rfl (by rw [k32_1]) (Or.inr rfl) rfl (j_goto rfl (g))) (l_Mo_countOf_L6 hd v0 v1 v2 v3 v4 v5 hX n t7 (v7 + (1 : Int32)) σ8)
    exact J_some (fun h => j_icmp_t rfl (cc_ge_t h1) (j_weak (l := [none, none, none, none, none, none, some (.int v6), none, none]) (And.intro (Or.inl rfl) (And.intro (Or.inl rfl) (And.intro (Or.inl rfl) (And.intro (Or.inl rfl) (And.intro (Or.inl rfl) (And.intro (Or.inl rfl) (And.intro (Or.inr rfl) (And.intro (Or.inl rfl) (And.intro (Or.inr rfl) True.intro))))))))) (hX _ _ h)))

set_option maxRecDepth 100000 in
theorem b_Mo_countOf {fo : Option Nat} {d : Nat} (hd : 6 ≤ d + 1) {o : q_O} {σ' : q_H} (v0 : Nat) (v1 : Int32) (v2 : Int32) (v3 : Int32) (v4 : Int32) (v5 : Int32) (σ : q_H) : q_J (fun (r : Int32) (σ1 : q_H) => o = .inl (some (.int r)) ∧ σ' = σ1) (f_Mo_countOf v0 v1 v2 v3 v4 v5 σ) (q_G (q_rf fo) d m_Mo_countOf o σ' 0 [some (.ref v0), some (.int v1), some (.int v2), some (.int v3), some (.int v4), some (.int v5), none, none, none] [] σ) := by
  unfold f_Mo_countOf
  refine J_sq (fun (t1 : Int32) (σ2 : q_H) => q_G (q_rf fo) d m_Mo_countOf o σ' 111 [none, none, none, none, none, none, some (.int t1), none, none] [] σ2) (q_J.step (fun g => j_iconst (0 : Int32) rfl k32_0 (j_istore [some (.ref v0), some (.int v1), some (.int v2), some (.int v3), some (.int v4), some (.int v5), some (.int (0 : Int32)), none, none] rfl rfl (Or.inr rfl) rfl (j_iconst (0 : Int32) rfl k32_0 (j_istore [some (.ref v0), some (.int v1), some (.int v2), some (.int v3), some (.int v4), some (.int v5), some (.int (0 : Int32)), some (.int (0 : Int32)), none] rfl rfl (Or.inr rfl) rfl (g))))) (l_Mo_countOf_L6 hd v0 v1 v2 v3 v4 v5 (fun _ _ h => h) q_FU (0 : Int32) (0 : Int32) σ)) (fun t1 σ2 => ?_)
  exact J_some (fun h => j_iload rfl rfl (j_iret rfl rfl h))
theorem t_Mo_countOf {fo : Option Nat} {d : Nat} (hd : 6 ≤ d) {v0 : Nat} {v1 : Int32} {v2 : Int32} {v3 : Int32} {v4 : Int32} {v5 : Int32} {σ σ1 : q_H} {r : Int32} (h : f_Mo_countOf v0 v1 v2 v3 v4 v5 σ = some (r, σ1)) : q_Rel (q_rf fo) q_Ms d 205 [.ref v0, .int v1, .int v2, .int v3, .int v4, .int v5] σ (.inl (some (.int r))) σ1 := by
  obtain ⟨d, rfl⟩ : ∃ d1, d = d1 + 1 := ⟨d - 1, by omega⟩
  exact q_Rel.of rfl rfl (b_Mo_countOf hd _ _ _ _ _ _ σ _ _ h ⟨rfl, rfl⟩)

set_option maxRecDepth 100000 in
theorem b_Mo_house {fo : Option Nat} {d : Nat} (hd : 6 ≤ d + 1) {o : q_O} {σ' : q_H} (v0 : Nat) (v1 : Int32) (v2 : Int32) (σ : q_H) : q_J (fun (r : Int32) (σ1 : q_H) => o = .inl (some (.int r)) ∧ σ' = σ1) (f_Mo_house v0 v1 v2 σ) (q_G (q_rf fo) d m_Mo_house o σ' 0 [some (.ref v0), some (.int v1), some (.int v2)] [] σ) := by
  unfold f_Mo_house
  refine J_bind fun σ1 hσ1 => ?_
  refine J_bind fun w2 hw2 => ?_
  refine J_cl fun x4 σ3 hσ3 => ?_
  refine q_J.step (fun g => j_aload_n rfl rfl (j_iconst (0 : Int32) rfl k32_0 (j_putf rfl rfl rfl rfl hσ1 (j_aload_n rfl rfl (j_iload_n rfl rfl (j_v1 [.ref v0, .int v1] [] rfl rfl rfl rfl rfl rfl hw2 (Or.inl rfl) (t_Mo_isThere (by omega) hσ3) (g))))))) ?_
  refine J_ite (fun h5 => ?_) (fun h5 => ?_)
  · exact J_some (fun h => j_if_t rfl (cc_eq_t h5) (j_iconst (-1 : Int32) rfl k32_m1 (j_iret rfl rfl h)))
  refine J_bind fun w6 hw6 => ?_
  refine J_cl fun x8 σ7 hσ7 => ?_
  refine q_J.step (fun g => j_if_f rfl (cc_eq_f h5) (j_aload_n rfl rfl (j_iload_n rfl rfl (j_v1 [.ref v0, .int v2] [] rfl rfl rfl rfl rfl rfl hw6 (Or.inl rfl) (t_Mo_isThere (by omega) hσ7) (g))))) ?_
  refine J_ite (fun h9 => ?_) (fun h9 => ?_)
  · exact J_some (fun h => j_if_t rfl (cc_eq_t h9) (j_iconst (-1 : Int32) rfl k32_m1 (j_iret rfl rfl h)))
  refine q_J.step (fun g => j_if_f rfl (cc_eq_f h9) (j_iload_n rfl rfl (j_iload_n rfl rfl (g)))) ?_
  refine J_ite (fun h10 => ?_) (fun h10 => ?_)
  · exact J_some (fun h => j_icmp_f rfl (cc_ne_f h10) (j_iconst (-1 : Int32) rfl k32_m1 (j_iret rfl rfl h)))
  refine J_bind fun w11 hw11 => ?_
  refine J_cl fun _ σ12 hσ12 => ?_
  refine J_bind fun x14 hx14 => ?_
  refine J_bind fun x15 hx15 => ?_
  refine J_bind fun x16 hx16 => ?_
  refine J_bind fun x17 hx17 => ?_
  refine q_J.step (fun g => j_icmp_t rfl (cc_ne_t h10) (j_aload_n rfl rfl (j_v0 [.ref v0] [] rfl rfl rfl rfl rfl rfl hw11 (Or.inl rfl) (t_Mo_houses (by omega) hσ12) (j_aload_n rfl rfl (j_gfr rfl hx14 (j_iload_n rfl rfl (j_ial rfl hx15 (j_aload_n rfl rfl (j_gfr rfl hx16 (j_iload_n rfl rfl (j_ial rfl hx17 (g)))))))))))) ?_
  refine J_ite (fun h18 => ?_) (fun h18 => ?_)
  · exact J_some (fun h => j_icmp_f rfl (cc_ne_f h18) (j_iconst (1 : Int32) rfl k32_1 (j_goto rfl (j_iret rfl rfl h))))
  exact J_some (fun h => j_icmp_t rfl (cc_ne_t h18) (j_iconst (0 : Int32) rfl k32_0 (j_iret rfl rfl h)))
theorem t_Mo_house {fo : Option Nat} {d : Nat} (hd : 6 ≤ d) {v0 : Nat} {v1 : Int32} {v2 : Int32} {σ σ1 : q_H} {r : Int32} (h : f_Mo_house v0 v1 v2 σ = some (r, σ1)) : q_Rel (q_rf fo) q_Ms d 224 [.ref v0, .int v1, .int v2] σ (.inl (some (.int r))) σ1 := by
  obtain ⟨d, rfl⟩ : ∃ d1, d = d1 + 1 := ⟨d - 1, by omega⟩
  exact q_Rel.of rfl rfl (b_Mo_house hd _ _ _ σ _ _ h ⟨rfl, rfl⟩)

set_option maxRecDepth 100000 in
theorem b_Mo_known {fo : Option Nat} {d : Nat} (hd : 6 ≤ d + 1) {o : q_O} {σ' : q_H} (v0 : Nat) (v1 : Int32) (v2 : Int32) (v3 : Int32) (σ : q_H) : q_J (fun (r : Int32) (σ1 : q_H) => o = .inl (some (.int r)) ∧ σ' = σ1) (f_Mo_known v0 v1 v2 v3 σ) (q_G (q_rf fo) d m_Mo_known o σ' 0 [some (.ref v0), some (.int v1), some (.int v2), some (.int v3)] [] σ) := by
  unfold f_Mo_known
  refine J_bind fun w1 hw1 => ?_
  refine J_cl fun x3 σ2 hσ2 => ?_
  refine q_J.step (fun g => j_aload_n rfl rfl (j_aload_n rfl rfl (j_iload_n rfl rfl (j_iload_n rfl rfl (j_v1 [.ref v0, .int v1, .int v2] [.ref v0] rfl rfl rfl rfl rfl rfl hw1 (Or.inl rfl) (t_Mo_isLine (by omega) hσ2) (g)))))) ?_
  refine J_ite (fun h4 => ?_) (fun h4 => ?_)
  · refine J_bind fun σ5 hσ5 => ?_
    refine J_bind fun x6 hx6 => ?_
    refine q_J.step (fun g => j_if_t rfl (cc_eq_t h4) (j_iconst (1 : Int32) rfl k32_1 (j_putf rfl rfl rfl rfl hσ5 (j_aload_n rfl rfl (j_gfi rfl hx6 (j_iconst (1 : Int32) rfl k32_1 (g))))))) ?_
    refine J_ite (fun h7 => ?_) (fun h7 => ?_)
    · exact J_some (fun h => j_icmp_f rfl (cc_ne_f h7) (j_iconst (0 : Int32) rfl k32_0 (j_iret rfl rfl h)))
    refine J_bind fun w8 hw8 => ?_
    refine J_cl fun _ σ9 hσ9 => ?_
    refine J_bind fun x11 hx11 => ?_
    refine J_bind fun x12 hx12 => ?_
    refine q_J.step (fun g => j_icmp_t rfl (cc_ne_t h7) (j_aload_n rfl rfl (j_iload_n rfl rfl (j_iload_n rfl rfl (j_v0 [.ref v0, .int v1, .int v2] [] rfl rfl rfl rfl rfl rfl hw8 (Or.inl rfl) (t_Mo_knows (by omega) hσ9) (j_aload_n rfl rfl (j_aload_n rfl rfl (j_gfi rfl hx11 (j_aload_n rfl rfl (j_gfi rfl hx12 (g))))))))))) ?_
    refine J_sq (fun (t14 : Int32) (σ15 : q_H) => q_G (q_rf fo) d m_Mo_known o σ' 60 [some (.ref v0), none, none, some (.int v3)] [.int t14, .ref v0] σ15) ?_ (fun t14 σ15 => ?_)
    · refine J_ite (fun h13 => ?_) (fun h13 => ?_)
      · exact J_some (fun h => j_icmp_f rfl (cc_le_f h13) (j_iconst (1 : Int32) rfl k32_1 (j_goto rfl (j_weak (l := [some (.ref v0), none, none, some (.int v3)]) (And.intro (Or.inr rfl) (And.intro (Or.inl rfl) (And.intro (Or.inl rfl) (And.intro (Or.inr rfl) True.intro)))) (h)))))
      exact J_some (fun h => j_icmp_t rfl (cc_le_t h13) (j_iconst (0 : Int32) rfl k32_0 (j_weak (l := [some (.ref v0), none, none, some (.int v3)]) (And.intro (Or.inr rfl) (And.intro (Or.inl rfl) (And.intro (Or.inl rfl) (And.intro (Or.inr rfl) True.intro)))) (h))))
    refine J_bind fun σ16 hσ16 => ?_
    refine J_bind fun x17 hx17 => ?_
    refine q_J.step (fun g => j_putf rfl rfl rfl rfl hσ16 (j_aload_n rfl rfl (j_gfi rfl hx17 (j_iconst (1 : Int32) rfl k32_1 (g))))) ?_
    refine J_ite (fun h18 => ?_) (fun h18 => ?_)
    · exact J_some (fun h => j_icmp_f rfl (cc_ne_f h18) (j_iconst (0 : Int32) rfl k32_0 (j_goto rfl (j_iret rfl rfl h))))
    refine q_J.step (fun g => j_icmp_t rfl (cc_ne_t h18) (j_iload_n rfl rfl (g))) ?_
    refine J_ite (fun h19 => ?_) (fun h19 => ?_)
    · refine J_bind fun x20 hx20 => ?_
      exact J_some (fun h => j_if_f rfl (cc_ne_f h19) (j_aload_n rfl rfl (j_gfi rfl hx20 (j_goto rfl (j_iret rfl rfl h)))))
    refine J_bind fun x21 hx21 => ?_
    exact J_some (fun h => j_if_t rfl (cc_ne_t h19) (j_aload_n rfl rfl (j_gfi rfl hx21 (j_iret rfl rfl h))))
  refine J_cl fun x23 σ22 hσ22 => ?_
  refine q_J.step (fun g => j_if_f rfl (cc_eq_f h4) (j_iload_n rfl rfl (j_iconst (0 : Int32) rfl k32_0 (j_iconst (1 : Int32) rfl k32_1 (j_s1 [.int v3, .int (0 : Int32), .int (1 : Int32)] [.ref v0] rfl rfl rfl rfl rfl (t_Mo_within (by omega) hσ22) (g)))))) ?_
  refine J_sq (fun (t25 : Int32) (σ26 : q_H) => q_G (q_rf fo) d m_Mo_known o σ' 24 [some (.ref v0), some (.int v1), some (.int v2), some (.int v3)] [.int t25, .ref v0] σ26) ?_ (fun t25 σ26 => ?_)
  · refine J_ite (fun h24 => ?_) (fun h24 => ?_)
    · exact J_some (fun h => j_if_t rfl (cc_eq_t h24) (j_iconst (1 : Int32) rfl k32_1 (h)))
    exact J_some (fun h => j_if_f rfl (cc_eq_f h24) (j_iconst (0 : Int32) rfl k32_0 (j_goto rfl (h))))
  refine J_bind fun σ27 hσ27 => ?_
  refine J_bind fun x28 hx28 => ?_
  refine q_J.step (fun g => j_putf rfl rfl rfl rfl hσ27 (j_aload_n rfl rfl (j_gfi rfl hx28 (j_iconst (1 : Int32) rfl k32_1 (g))))) ?_
  refine J_ite (fun h29 => ?_) (fun h29 => ?_)
  · exact J_some (fun h => j_icmp_f rfl (cc_ne_f h29) (j_iconst (0 : Int32) rfl k32_0 (j_iret rfl rfl h)))
  refine J_bind fun w30 hw30 => ?_
  refine J_cl fun _ σ31 hσ31 => ?_
  refine J_bind fun x33 hx33 => ?_
  refine J_bind fun x34 hx34 => ?_
  refine q_J.step (fun g => j_icmp_t rfl (cc_ne_t h29) (j_aload_n rfl rfl (j_iload_n rfl rfl (j_iload_n rfl rfl (j_v0 [.ref v0, .int v1, .int v2] [] rfl rfl rfl rfl rfl rfl hw30 (Or.inl rfl) (t_Mo_knows (by omega) hσ31) (j_aload_n rfl rfl (j_aload_n rfl rfl (j_gfi rfl hx33 (j_aload_n rfl rfl (j_gfi rfl hx34 (g))))))))))) ?_
  refine J_sq (fun (t36 : Int32) (σ37 : q_H) => q_G (q_rf fo) d m_Mo_known o σ' 60 [some (.ref v0), none, none, some (.int v3)] [.int t36, .ref v0] σ37) ?_ (fun t36 σ37 => ?_)
  · refine J_ite (fun h35 => ?_) (fun h35 => ?_)
    · exact J_some (fun h => j_icmp_f rfl (cc_le_f h35) (j_iconst (1 : Int32) rfl k32_1 (j_goto rfl (j_weak (l := [some (.ref v0), none, none, some (.int v3)]) (And.intro (Or.inr rfl) (And.intro (Or.inl rfl) (And.intro (Or.inl rfl) (And.intro (Or.inr rfl) True.intro)))) (h)))))
    exact J_some (fun h => j_icmp_t rfl (cc_le_t h35) (j_iconst (0 : Int32) rfl k32_0 (j_weak (l := [some (.ref v0), none, none, some (.int v3)]) (And.intro (Or.inr rfl) (And.intro (Or.inl rfl) (And.intro (Or.inl rfl) (And.intro (Or.inr rfl) True.intro)))) (h))))
  refine J_bind fun σ38 hσ38 => ?_
  refine J_bind fun x39 hx39 => ?_
  refine q_J.step (fun g => j_putf rfl rfl rfl rfl hσ38 (j_aload_n rfl rfl (j_gfi rfl hx39 (j_iconst (1 : Int32) rfl k32_1 (g))))) ?_
  refine J_ite (fun h40 => ?_) (fun h40 => ?_)
  · exact J_some (fun h => j_icmp_f rfl (cc_ne_f h40) (j_iconst (0 : Int32) rfl k32_0 (j_goto rfl (j_iret rfl rfl h))))
  refine q_J.step (fun g => j_icmp_t rfl (cc_ne_t h40) (j_iload_n rfl rfl (g))) ?_
  refine J_ite (fun h41 => ?_) (fun h41 => ?_)
  · refine J_bind fun x42 hx42 => ?_
    exact J_some (fun h => j_if_f rfl (cc_ne_f h41) (j_aload_n rfl rfl (j_gfi rfl hx42 (j_goto rfl (j_iret rfl rfl h)))))
  refine J_bind fun x43 hx43 => ?_
  exact J_some (fun h => j_if_t rfl (cc_ne_t h41) (j_aload_n rfl rfl (j_gfi rfl hx43 (j_iret rfl rfl h))))
theorem t_Mo_known {fo : Option Nat} {d : Nat} (hd : 6 ≤ d) {v0 : Nat} {v1 : Int32} {v2 : Int32} {v3 : Int32} {σ σ1 : q_H} {r : Int32} (h : f_Mo_known v0 v1 v2 v3 σ = some (r, σ1)) : q_Rel (q_rf fo) q_Ms d 226 [.ref v0, .int v1, .int v2, .int v3] σ (.inl (some (.int r))) σ1 := by
  obtain ⟨d, rfl⟩ : ∃ d1, d = d1 + 1 := ⟨d - 1, by omega⟩
  exact q_Rel.of rfl rfl (b_Mo_known hd _ _ _ _ σ _ _ h ⟨rfl, rfl⟩)

set_option maxRecDepth 100000 in
theorem b_Mo_leftOf {fo : Option Nat} {d : Nat} (hd : 6 ≤ d + 1) {o : q_O} {σ' : q_H} (v0 : Nat) (v1 : Int32) (v2 : Int32) (v3 : Int32) (σ : q_H) : q_J (fun (r : Int32) (σ1 : q_H) => o = .inl (some (.int r)) ∧ σ' = σ1) (f_Mo_leftOf v0 v1 v2 v3 σ) (q_G (q_rf fo) d m_Mo_leftOf o σ' 0 [some (.ref v0), some (.int v1), some (.int v2), some (.int v3)] [] σ) := by
  unfold f_Mo_leftOf
  refine J_bind fun w1 hw1 => ?_
  refine J_cl fun x3 σ2 hσ2 => ?_
  refine q_J.step (fun g => j_aload_n rfl rfl (j_iload_n rfl rfl (j_bipush (12 : Int32) rfl kb_12 (j_iload_n rfl rfl (j_imul rfl (j_iload_n rfl rfl (j_iadd rfl (j_v1 [.ref v0, .int v1, .int (((12 : Int32) * v2) + v3)] [] rfl rfl rfl rfl rfl rfl hw1 (Or.inl rfl) (t_Mo_hasParent (by omega) hσ2) (g))))))))) ?_
  refine J_ite (fun h4 => ?_) (fun h4 => ?_)
  · exact J_some (fun h => j_if_t rfl (cc_eq_t h4) (j_iconst (0 : Int32) rfl k32_0 (j_iret rfl rfl h)))
  refine J_bind fun w5 hw5 => ?_
  refine J_cl fun x7 σ6 hσ6 => ?_
  refine q_J.step (fun g => j_if_f rfl (cc_eq_f h4) (j_aload_n rfl rfl (j_iload_n rfl rfl (j_iload_n rfl rfl (j_iload_n rfl rfl (j_v1 [.ref v0, .int v2, .int v3, .int v1] [] rfl rfl rfl rfl rfl rfl hw5 (Or.inl rfl) (t_Mo_oneOf (by omega) hσ6) (g))))))) ?_
  refine J_ite (fun h8 => ?_) (fun h8 => ?_)
  · refine J_bind fun w9 hw9 => ?_
    refine J_cl fun _ σ10 hσ10 => ?_
    refine J_bind fun x12 hx12 => ?_
    refine J_bind fun x13 hx13 => ?_
    refine q_J.step (fun g => j_if_t rfl (cc_lt_t h8) (j_aload_n rfl rfl (j_iload_n rfl rfl (j_iload_n rfl rfl (j_v0 [.ref v0, .int v2, .int v3] [] rfl rfl rfl rfl rfl rfl hw9 (Or.inl rfl) (t_Mo_knows (by omega) hσ10) (j_aload_n rfl rfl (j_gfi rfl hx12 (j_aload_n rfl rfl (j_gfi rfl hx13 (g)))))))))) ?_
    refine J_ite (fun h14 => ?_) (fun h14 => ?_)
    · exact J_some (fun h => j_icmp_t rfl (cc_gt_t h14) (j_iconst (0 : Int32) rfl k32_0 (j_iret rfl rfl h)))
    refine J_bind fun x15 hx15 => ?_
    refine J_bind fun x16 hx16 => ?_
    refine J_bind fun x17 hx17 => ?_
    refine q_J.step (fun g => j_icmp_f rfl (cc_gt_f h14) (j_aload_n rfl rfl (j_gfi rfl hx15 (j_bipush (14 : Int32) rfl kb_14 (j_aload_n rfl rfl (j_gfr rfl hx16 (j_iload_n rfl rfl (j_ial rfl hx17 (j_imul rfl (g)))))))))) ?_
    refine J_ite (fun h18 => ?_) (fun h18 => ?_)
    · refine J_bind fun x19 hx19 => ?_
      refine J_bind fun x20 hx20 => ?_
      refine J_bind fun x21 hx21 => ?_
      refine q_J.step (fun g => j_icmp_t rfl (cc_lt_t h18) (j_aload_n rfl rfl (j_gfi rfl hx19 (j_bipush (14 : Int32) rfl kb_14 (j_aload_n rfl rfl (j_gfr rfl hx20 (j_iload_n rfl rfl (j_ial rfl hx21 (j_imul rfl (g)))))))))) ?_
      refine J_ite (fun h22 => ?_) (fun h22 => ?_)
      · exact J_some (fun h => j_icmp_f rfl (cc_ge_f h22) (j_iconst (2 : Int32) rfl k32_2 (j_goto rfl (j_iret rfl rfl h))))
      exact J_some (fun h => j_icmp_t rfl (cc_ge_t h22) (j_iconst (1 : Int32) rfl k32_1 (j_iret rfl rfl h)))
    exact J_some (fun h => j_icmp_f rfl (cc_lt_f h18) (j_iconst (0 : Int32) rfl k32_0 (j_iret rfl rfl h)))
  exact J_some (fun h => j_if_f rfl (cc_lt_f h8) (j_iconst (0 : Int32) rfl k32_0 (j_iret rfl rfl h)))
theorem t_Mo_leftOf {fo : Option Nat} {d : Nat} (hd : 6 ≤ d) {v0 : Nat} {v1 : Int32} {v2 : Int32} {v3 : Int32} {σ σ1 : q_H} {r : Int32} (h : f_Mo_leftOf v0 v1 v2 v3 σ = some (r, σ1)) : q_Rel (q_rf fo) q_Ms d 231 [.ref v0, .int v1, .int v2, .int v3] σ (.inl (some (.int r))) σ1 := by
  obtain ⟨d, rfl⟩ : ∃ d1, d = d1 + 1 := ⟨d - 1, by omega⟩
  exact q_Rel.of rfl rfl (b_Mo_leftOf hd _ _ _ _ σ _ _ h ⟨rfl, rfl⟩)

set_option maxRecDepth 100000 in
theorem b_Mo_taken {fo : Option Nat} {d : Nat} (hd : 6 ≤ d + 1) {o : q_O} {σ' : q_H} (v0 : Nat) (v1 : Int32) (v2 : Int32) (σ : q_H) : q_J (fun (r : Int32) (σ1 : q_H) => o = .inl (some (.int r)) ∧ σ' = σ1) (f_Mo_taken v0 v1 v2 σ) (q_G (q_rf fo) d m_Mo_taken o σ' 0 [some (.ref v0), some (.int v1), some (.int v2)] [] σ) := by
  unfold f_Mo_taken
  refine J_bind fun σ1 hσ1 => ?_
  refine J_bind fun w2 hw2 => ?_
  refine J_cl fun x4 σ3 hσ3 => ?_
  refine q_J.step (fun g => j_aload_n rfl rfl (j_iconst (0 : Int32) rfl k32_0 (j_putf rfl rfl rfl rfl hσ1 (j_aload_n rfl rfl (j_iload_n rfl rfl (j_iload_n rfl rfl (j_v1 [.ref v0, .int v1, .int v2] [] rfl rfl rfl rfl rfl rfl hw2 (Or.inl rfl) (t_Mo_isWife (by omega) hσ3) (g)))))))) ?_
  refine J_ite (fun h5 => ?_) (fun h5 => ?_)
  · exact J_some (fun h => j_if_t rfl (cc_eq_t h5) (j_iconst (-1 : Int32) rfl k32_m1 (j_iret rfl rfl h)))
  refine J_bind fun w6 hw6 => ?_
  refine J_cl fun x8 σ7 hσ7 => ?_
  refine q_J.step (fun g => j_if_f rfl (cc_eq_f h5) (j_aload_n rfl rfl (j_iload_n rfl rfl (j_iload_n rfl rfl (j_v1 [.ref v0, .int v1, .int v2] [] rfl rfl rfl rfl rfl rfl hw6 (Or.inl rfl) (t_Mo_sortOf (by omega) hσ7) (g)))))) ?_
  refine J_ite (fun h9 => ?_) (fun h9 => ?_)
  · refine J_bind fun w10 hw10 => ?_
    refine J_cl fun x12 σ11 hσ11 => ?_
    exact J_some (fun h => j_if_t rfl (cc_eq_t h9) (j_aload_n rfl rfl (j_iload_n rfl rfl (j_iload_n rfl rfl (j_v1 [.ref v0, .int v1, .int v2] [] rfl rfl rfl rfl rfl rfl hw10 (Or.inl rfl) (t_Mo_takenOf (by omega) hσ11) (j_goto rfl (j_iret rfl rfl h)))))))
  refine J_bind fun w13 hw13 => ?_
  refine J_cl fun x15 σ14 hσ14 => ?_
  refine q_J.step (fun g => j_if_f rfl (cc_eq_f h9) (j_aload_n rfl rfl (j_iload_n rfl rfl (j_iload_n rfl rfl (j_v1 [.ref v0, .int v1, .int v2] [] rfl rfl rfl rfl rfl rfl hw13 (Or.inl rfl) (t_Mo_sortOf (by omega) hσ14) (j_iconst (2 : Int32) rfl k32_2 (g))))))) ?_
  refine J_ite (fun h16 => ?_) (fun h16 => ?_)
  · refine J_bind fun w17 hw17 => ?_
    refine J_cl fun x19 σ18 hσ18 => ?_
    exact J_some (fun h => j_icmp_f rfl (cc_ne_f h16) (j_aload_n rfl rfl (j_iload_n rfl rfl (j_iload_n rfl rfl (j_v1 [.ref v0, .int v1, .int v2] [] rfl rfl rfl rfl rfl rfl hw17 (Or.inl rfl) (t_Mo_takenOf (by omega) hσ18) (j_goto rfl (j_iret rfl rfl h)))))))
  exact J_some (fun h => j_icmp_t rfl (cc_ne_t h16) (j_iconst (-1 : Int32) rfl k32_m1 (j_iret rfl rfl h)))
theorem t_Mo_taken {fo : Option Nat} {d : Nat} (hd : 6 ≤ d) {v0 : Nat} {v1 : Int32} {v2 : Int32} {σ σ1 : q_H} {r : Int32} (h : f_Mo_taken v0 v1 v2 σ = some (r, σ1)) : q_Rel (q_rf fo) q_Ms d 246 [.ref v0, .int v1, .int v2] σ (.inl (some (.int r))) σ1 := by
  obtain ⟨d, rfl⟩ : ∃ d1, d = d1 + 1 := ⟨d - 1, by omega⟩
  exact q_Rel.of rfl rfl (b_Mo_taken hd _ _ _ σ _ _ h ⟨rfl, rfl⟩)

set_option maxRecDepth 100000 in
theorem b_Mo_lets {fo : Option Nat} {d : Nat} (hd : 6 ≤ d + 1) {o : q_O} {σ' : q_H} (v0 : Nat) (v1 : Int32) (v2 : Int32) (v3 : Int32) (σ : q_H) : q_J (fun (r : Int32) (σ1 : q_H) => o = .inl (some (.int r)) ∧ σ' = σ1) (f_Mo_lets v0 v1 v2 v3 σ) (q_G (q_rf fo) d m_Mo_lets o σ' 0 [some (.ref v0), some (.int v1), some (.int v2), some (.int v3)] [] σ) := by
  unfold f_Mo_lets
  refine J_bind fun σ1 hσ1 => ?_
  refine J_cl fun x3 σ2 hσ2 => ?_
  refine q_J.step (fun g => j_aload_n rfl rfl (j_iconst (0 : Int32) rfl k32_0 (j_putf rfl rfl rfl rfl hσ1 (j_iload_n rfl rfl (j_s1 [.int v1] [] rfl rfl rfl rfl rfl (t_Mo_isTable (by omega) hσ2) (g)))))) ?_
  refine J_ite (fun h4 => ?_) (fun h4 => ?_)
  · exact J_some (fun h => j_if_t rfl (cc_eq_t h4) (j_iconst (-1 : Int32) rfl k32_m1 (j_iret rfl rfl h)))
  refine J_bind fun w5 hw5 => ?_
  refine J_cl fun x7 σ6 hσ6 => ?_
  refine q_J.step (fun g => j_if_f rfl (cc_eq_f h4) (j_aload_n rfl rfl (j_iload_n rfl rfl (j_iload_n rfl rfl (j_v1 [.ref v0, .int v2, .int v3] [] rfl rfl rfl rfl rfl rfl hw5 (Or.inl rfl) (t_Mo_isWife (by omega) hσ6) (g)))))) ?_
  refine J_ite (fun h8 => ?_) (fun h8 => ?_)
  · exact J_some (fun h => j_if_t rfl (cc_eq_t h8) (j_iconst (-1 : Int32) rfl k32_m1 (j_iret rfl rfl h)))
  refine J_bind fun w9 hw9 => ?_
  refine J_cl fun x11 σ10 hσ10 => ?_
  refine q_J.step (fun g => j_if_f rfl (cc_eq_f h8) (j_aload_n rfl rfl (j_iload_n rfl rfl (j_iload_n rfl rfl (j_iload_n rfl rfl (j_v1 [.ref v0, .int v1, .int v2, .int v3] [] rfl rfl rfl rfl rfl rfl hw9 (Or.inl rfl) (t_Mo_isLet (by omega) hσ10) (g))))))) ?_
  refine J_ite (fun h12 => ?_) (fun h12 => ?_)
  · exact J_some (fun h => j_if_t rfl (cc_eq_t h12) (j_iconst (0 : Int32) rfl k32_0 (j_goto rfl (j_iret rfl rfl h))))
  exact J_some (fun h => j_if_f rfl (cc_eq_f h12) (j_iconst (1 : Int32) rfl k32_1 (j_goto rfl (j_iret rfl rfl h))))
theorem t_Mo_lets {fo : Option Nat} {d : Nat} (hd : 6 ≤ d) {v0 : Nat} {v1 : Int32} {v2 : Int32} {v3 : Int32} {σ σ1 : q_H} {r : Int32} (h : f_Mo_lets v0 v1 v2 v3 σ = some (r, σ1)) : q_Rel (q_rf fo) q_Ms d 253 [.ref v0, .int v1, .int v2, .int v3] σ (.inl (some (.int r))) σ1 := by
  obtain ⟨d, rfl⟩ : ∃ d1, d = d1 + 1 := ⟨d - 1, by omega⟩
  exact q_Rel.of rfl rfl (b_Mo_lets hd _ _ _ _ σ _ _ h ⟨rfl, rfl⟩)

set_option maxRecDepth 100000 in
theorem l_Mo_failsOf_L15 {fo : Option Nat} {d : Nat} (hd : 6 ≤ d + 1) {o : q_O} {σ' : q_H} {E : (Int32) → q_H → Prop} (v0 : Nat) (v1 : Int32) (v2 : Int32) (v4 : Int32) (hX : ∀ (t : Int32) σ1, E (t) σ1 → q_G (q_rf fo) d m_Mo_failsOf o σ' 90 [some (.ref v0), some (.int v1), some (.int v2), some (.int t), some (.int v4), none] [] σ1)  : ∀ (n : Nat) (v3 : Int32) (v5 : Int32) (σ : q_H), q_J E (f_Mo_failsOf_L15 v0 v1 v2 v4 n v3 v5 σ) (q_G (q_rf fo) d m_Mo_failsOf o σ' 15 [some (.ref v0), some (.int v1), some (.int v2), some (.int v3), some (.int v4), some (.int v5)] [] σ)
  | 0, v3, v5, σ => J_none
  | n + 1, v3, v5, σ => by
    unfold f_Mo_failsOf_L15
    refine J_bind fun w1 hw1 => ?_
    refine J_cl fun x3 σ2 hσ2 => ?_
    refine q_J.step (fun g => j_aload_n rfl rfl (j_iload rfl rfl (j_v1 [.ref v0, .int v4] [] rfl rfl rfl rfl rfl rfl hw1 (Or.inl rfl) (t_Mo_isThere (by omega) hσ2) (g)))) ?_
    refine J_ite (fun h4 => ?_) (fun h4 => ?_)
    · exact J_some (fun h => j_if_t rfl (cc_eq_t h4) (j_weak (l := [some (.ref v0), some (.int v1), some (.int v2), some (.int v3), some (.int v4), none]) (And.intro (Or.inr rfl) (And.intro (Or.inr rfl) (And.intro (Or.inr rfl) (And.intro (Or.inr rfl) (And.intro (Or.inr rfl) (And.intro (Or.inl rfl) True.intro)))))) (hX _ _ h)))
    refine J_bind fun x5 hx5 => ?_
    refine J_bind fun x6 hx6 => ?_
    refine q_J.step (fun g => j_if_f rfl (cc_eq_f h4) (j_iload rfl rfl (j_aload_n rfl rfl (j_gfr rfl hx5 (j_iload rfl rfl (j_ial rfl hx6 (g))))))) ?_
    refine J_ite (fun h7 => ?_) (fun h7 => ?_)
    · refine J_bind fun w8 hw8 => ?_
      refine J_cl fun x10 σ9 hσ9 => ?_
      refine q_J.step (fun g => j_icmp_f rfl (cc_ge_f h7) (j_aload_n rfl rfl (j_iload rfl rfl (j_iload rfl rfl (j_v1 [.ref v0, .int v4, .int v5] [] rfl rfl rfl rfl rfl rfl hw8 (Or.inl rfl) (t_Mo_isWife (by omega) hσ9) (g)))))) ?_
      refine J_ite (fun h11 => ?_) (fun h11 => ?_)
      · exact q_J.step (fun g => j_if_t rfl (cc_eq_t h11) (j_iinc [some (.ref v0), some (.int v1), some (.int v2), some (.int v3), some (.int v4), some (.int (v5 + (1 : Int32)))] (v5 + (1 : Int32)) rfl rfl (by rw [k32_1]) (Or.inr rfl) rfl (j_goto rfl (g)))) (l_Mo_failsOf_L15 hd v0 v1 v2 v4 hX n v3 (v5 + (1 : Int32)) σ9)
      refine J_bind fun w12 hw12 => ?_
      refine J_cl fun x14 σ13 hσ13 => ?_
      refine q_J.step (fun g => j_if_f rfl (cc_eq_f h11) (j_iload_n rfl rfl (j_aload_n rfl rfl (j_iload_n rfl rfl (j_iload rfl rfl (j_iload rfl rfl (j_v1 [.ref v0, .int v1, .int v4, .int v5] [.int v3] rfl rfl rfl rfl rfl rfl hw12 (Or.inl rfl) (t_Mo_isLet (by omega) hσ13) (g)))))))) ?_
      refine J_ite (fun h15 => ?_) (fun h15 => ?_)
      · refine q_J.step (fun g => j_if_f rfl (cc_ne_f h15) (j_iload_n rfl rfl (j_iload_n rfl rfl (g)))) ?_
        refine J_ite (fun h16 => ?_) (fun h16 => ?_)
        · exact q_J.step (fun g => j_icmp_t rfl (cc_eq_t h16) (j_iconst (1 : Int32) rfl k32_1 (j_goto rfl (j_iadd rfl (j_istore_n [some (.ref v0), some (.int v1), some (.int v2), some (.int (v3 + (1 : Int32))), some (.int v4), some (.int v5)] rfl rfl (Or.inr rfl) rfl (j_iinc [some (.ref v0), some (.int v1), some (.int v2), some (.int (v3 + (1 : Int32))), some (.int v4), some (.int (v5 + (1 : Int32)))] (v5 + (1 : Int32)) rfl rfl (by rw [k32_1]) (Or.inr rfl) rfl (j_goto rfl (g)))))))) (l_Mo_failsOf_L15 hd v0 v1 v2 v4 hX n (v3 + (1 : Int32)) (v5 + (1 : Int32)) σ13)
        refine J_bind fun w17 hw17 => ?_
        refine J_cl fun x19 σ18 hσ18 => ?_
        refine q_J.step (fun g => j_icmp_f rfl (cc_eq_f h16) (j_aload_n rfl rfl (j_iload_n rfl rfl (j_iload rfl rfl (j_iload rfl rfl (j_v1 [.ref v0, .int v2, .int v4, .int v5] [.int v3] rfl rfl rfl rfl rfl rfl hw17 (Or.inl rfl) (t_Mo_isLet (by omega) hσ18) (g))))))) ?_
        refine J_ite (fun h20 => ?_) (fun h20 => ?_)
        · exact q_J.step (fun g => j_if_t rfl (cc_eq_t h20) (j_iconst (0 : Int32) rfl k32_0 (j_iadd rfl (j_istore_n [some (.ref v0), some (.int v1), some (.int v2), some (.int (v3 + (0 : Int32))), some (.int v4), some (.int v5)] rfl rfl (Or.inr rfl) rfl (j_iinc [some (.ref v0), some (.int v1), some (.int v2), some (.int (v3 + (0 : Int32))), some (.int v4), some (.int (v5 + (1 : Int32)))] (v5 + (1 : Int32)) rfl rfl (by rw [k32_1]) (Or.inr rfl) rfl (j_goto rfl (g))))))) (l_Mo_failsOf_L15 hd v0 v1 v2 v4 hX n (v3 + (0 : Int32)) (v5 + (1 : Int32)) σ18)
        exact q_J.step (fun g => j_if_f rfl (cc_eq_f h20) (j_iconst (1 : Int32) rfl k32_1 (j_goto rfl (j_iadd rfl (j_istore_n [some (.ref v0), some (.int v1), some (.int v2), some (.int (v3 + (1 : Int32))), some (.int v4), some (.int v5)] rfl rfl (Or.inr rfl) rfl (j_iinc [some (.ref v0), some (.int v1), some (.int v2), some (.int (v3 + (1 : Int32))), some (.int v4), some (.int (v5 + (1 : Int32)))] (v5 + (1 : Int32)) rfl rfl (by rw [k32_1]) (Or.inr rfl) rfl (j_goto rfl (g)))))))) (l_Mo_failsOf_L15 hd v0 v1 v2 v4 hX n (v3 + (1 : Int32)) (v5 + (1 : Int32)) σ18)
      exact q_J.step (fun g => j_if_t rfl (cc_ne_t h15) (j_iconst (0 : Int32) rfl k32_0 (j_iadd rfl (j_istore_n [some (.ref v0), some (.int v1), some (.int v2), some (.int (v3 + (0 : Int32))), some (.int v4), some (.int v5)] rfl rfl (Or.inr rfl) rfl (j_iinc [some (.ref v0), some (.int v1), some (.int v2), some (.int (v3 + (0 : Int32))), some (.int v4), some (.int (v5 + (1 : Int32)))] (v5 + (1 : Int32)) rfl rfl (by rw [k32_1]) (Or.inr rfl) rfl (j_goto rfl (g))))))) (l_Mo_failsOf_L15 hd v0 v1 v2 v4 hX n (v3 + (0 : Int32)) (v5 + (1 : Int32)) σ13)
    exact J_some (fun h => j_icmp_t rfl (cc_ge_t h7) (j_weak (l := [some (.ref v0), some (.int v1), some (.int v2), some (.int v3), some (.int v4), none]) (And.intro (Or.inr rfl) (And.intro (Or.inr rfl) (And.intro (Or.inr rfl) (And.intro (Or.inr rfl) (And.intro (Or.inr rfl) (And.intro (Or.inl rfl) True.intro)))))) (hX _ _ h)))

set_option maxRecDepth 100000 in
theorem l_Mo_failsOf_L5 {fo : Option Nat} {d : Nat} (hd : 6 ≤ d + 1) {o : q_O} {σ' : q_H} {E : (Int32) → q_H → Prop} (v0 : Nat) (v1 : Int32) (v2 : Int32) (hX : ∀ (t : Int32) σ1, E (t) σ1 → q_G (q_rf fo) d m_Mo_failsOf o σ' 96 [none, none, none, some (.int t), none, none] [] σ1)  : ∀ (n : Nat) (v3 : Int32) (v4 : Int32) (σ : q_H), q_J E (f_Mo_failsOf_L5 v0 v1 v2 n v3 v4 σ) (q_G (q_rf fo) d m_Mo_failsOf o σ' 5 [some (.ref v0), some (.int v1), some (.int v2), some (.int v3), some (.int v4), none] [] σ)
  | 0, v3, v4, σ => J_none
  | n + 1, v3, v4, σ => by
    unfold f_Mo_failsOf_L5
    refine q_J.step (fun g => j_iload rfl rfl (j_bipush (24 : Int32) rfl kb_24 (g))) ?_
    refine J_ite (fun h1 => ?_) (fun h1 => ?_)
    · refine J_sq (fun (t2 : Int32) (σ3 : q_H) => q_G (q_rf fo) d m_Mo_failsOf o σ' 90 [some (.ref v0), some (.int v1), some (.int v2), some (.int t2), some (.int v4), none] [] σ3) (q_J.step (fun g => j_icmp_f rfl (cc_ge_f h1) (j_iconst (0 : Int32) rfl k32_0 (j_istore [some (.ref v0), some (.int v1), some (.int v2), some (.int v3), some (.int v4), some (.int (0 : Int32))] rfl rfl (Or.inr rfl) rfl (g)))) (l_Mo_failsOf_L15 hd v0 v1 v2 v4 (fun _ _ h => h) q_FU v3 (0 : Int32) σ)) (fun t2 σ3 => ?_)
      exact q_J.step (fun g => j_iinc [some (.ref v0), some (.int v1), some (.int v2), some (.int t2), some (.int (v4 + (1 : Int32))), none] (v4 + (1 : Int32)) rfl rfl (by rw [k32_1]) (Or.inr rfl) rfl (j_goto rfl (g))) (l_Mo_failsOf_L5 hd v0 v1 v2 hX n t2 (v4 + (1 : Int32)) σ3)
    exact J_some (fun h => j_icmp_t rfl (cc_ge_t h1) (j_weak (l := [none, none, none, some (.int v3), none, none]) (And.intro (Or.inl rfl) (And.intro (Or.inl rfl) (And.intro (Or.inl rfl) (And.intro (Or.inr rfl) (And.intro (Or.inl rfl) (And.intro (Or.inr rfl) True.intro)))))) (hX _ _ h)))

set_option maxRecDepth 100000 in
theorem b_Mo_failsOf {fo : Option Nat} {d : Nat} (hd : 6 ≤ d + 1) {o : q_O} {σ' : q_H} (v0 : Nat) (v1 : Int32) (v2 : Int32) (σ : q_H) : q_J (fun (r : Int32) (σ1 : q_H) => o = .inl (some (.int r)) ∧ σ' = σ1) (f_Mo_failsOf v0 v1 v2 σ) (q_G (q_rf fo) d m_Mo_failsOf o σ' 0 [some (.ref v0), some (.int v1), some (.int v2), none, none, none] [] σ) := by
  unfold f_Mo_failsOf
  refine J_sq (fun (t1 : Int32) (σ2 : q_H) => q_G (q_rf fo) d m_Mo_failsOf o σ' 96 [none, none, none, some (.int t1), none, none] [] σ2) (q_J.step (fun g => j_iconst (0 : Int32) rfl k32_0 (j_istore_n [some (.ref v0), some (.int v1), some (.int v2), some (.int (0 : Int32)), none, none] rfl rfl (Or.inr rfl) rfl (j_iconst (0 : Int32) rfl k32_0 (j_istore [some (.ref v0), some (.int v1), some (.int v2), some (.int (0 : Int32)), some (.int (0 : Int32)), none] rfl rfl (Or.inr rfl) rfl (g))))) (l_Mo_failsOf_L5 hd v0 v1 v2 (fun _ _ h => h) q_FU (0 : Int32) (0 : Int32) σ)) (fun t1 σ2 => ?_)
  exact J_some (fun h => j_iload_n rfl rfl (j_iret rfl rfl h))
theorem t_Mo_failsOf {fo : Option Nat} {d : Nat} (hd : 6 ≤ d) {v0 : Nat} {v1 : Int32} {v2 : Int32} {σ σ1 : q_H} {r : Int32} (h : f_Mo_failsOf v0 v1 v2 σ = some (r, σ1)) : q_Rel (q_rf fo) q_Ms d 260 [.ref v0, .int v1, .int v2] σ (.inl (some (.int r))) σ1 := by
  obtain ⟨d, rfl⟩ : ∃ d1, d = d1 + 1 := ⟨d - 1, by omega⟩
  exact q_Rel.of rfl rfl (b_Mo_failsOf hd _ _ _ σ _ _ h ⟨rfl, rfl⟩)

set_option maxRecDepth 100000 in
theorem l_Mo_piecesOf_L8 {fo : Option Nat} {d : Nat} (hd : 6 ≤ d + 1) {o : q_O} {σ' : q_H} {E : (Int32) → q_H → Prop} (v0 : Nat) (hX : ∀ (t : Int32) σ1, E (t) σ1 → q_G (q_rf fo) d m_Mo_piecesOf o σ' 46 [none, some (.int t), none] [] σ1)  : ∀ (n : Nat) (v1 : Int32) (v2 : Int32) (σ : q_H), q_J E (f_Mo_piecesOf_L8 v0 n v1 v2 σ) (q_G (q_rf fo) d m_Mo_piecesOf o σ' 8 [some (.ref v0), some (.int v1), some (.int v2)] [] σ)
  | 0, v1, v2, σ => J_none
  | n + 1, v1, v2, σ => by
    unfold f_Mo_piecesOf_L8
    refine q_J.step (fun g => j_iload_n rfl rfl (j_bipush (24 : Int32) rfl kb_24 (g))) ?_
    refine J_ite (fun h1 => ?_) (fun h1 => ?_)
    · refine J_bind fun w2 hw2 => ?_
      refine J_cl fun x4 σ3 hσ3 => ?_
      refine q_J.step (fun g => j_icmp_f rfl (cc_ge_f h1) (j_iload_n rfl rfl (j_aload_n rfl rfl (j_iload_n rfl rfl (j_v1 [.ref v0, .int v2] [.int v1] rfl rfl rfl rfl rfl rfl hw2 (Or.inl rfl) (t_Mo_isThere (by omega) hσ3) (g)))))) ?_
      refine J_ite (fun h5 => ?_) (fun h5 => ?_)
      · exact q_J.step (fun g => j_if_t rfl (cc_eq_t h5) (j_iconst (0 : Int32) rfl k32_0 (j_iadd rfl (j_istore_n [some (.ref v0), some (.int (v1 + (0 : Int32))), some (.int v2)] rfl rfl (Or.inr rfl) rfl (j_iinc [some (.ref v0), some (.int (v1 + (0 : Int32))), some (.int (v2 + (1 : Int32)))] (v2 + (1 : Int32)) rfl rfl (by rw [k32_1]) (Or.inr rfl) rfl (j_goto rfl (g))))))) (l_Mo_piecesOf_L8 hd v0 hX n (v1 + (0 : Int32)) (v2 + (1 : Int32)) σ3)
      refine J_bind fun x6 hx6 => ?_
      refine J_bind fun x7 hx7 => ?_
      refine q_J.step (fun g => j_if_f rfl (cc_eq_f h5) (j_aload_n rfl rfl (j_gfr rfl hx6 (j_iload_n rfl rfl (j_ial rfl hx7 (j_iload_n rfl rfl (g))))))) ?_
      refine J_ite (fun h8 => ?_) (fun h8 => ?_)
      · exact q_J.step (fun g => j_icmp_f rfl (cc_ne_f h8) (j_iconst (1 : Int32) rfl k32_1 (j_goto rfl (j_iadd rfl (j_istore_n [some (.ref v0), some (.int (v1 + (1 : Int32))), some (.int v2)] rfl rfl (Or.inr rfl) rfl (j_iinc [some (.ref v0), some (.int (v1 + (1 : Int32))), some (.int (v2 + (1 : Int32)))] (v2 + (1 : Int32)) rfl rfl (by rw [k32_1]) (Or.inr rfl) rfl (j_goto rfl (g)))))))) (l_Mo_piecesOf_L8 hd v0 hX n (v1 + (1 : Int32)) (v2 + (1 : Int32)) σ3)
      exact q_J.step (fun g => j_icmp_t rfl (cc_ne_t h8) (j_iconst (0 : Int32) rfl k32_0 (j_iadd rfl (j_istore_n [some (.ref v0), some (.int (v1 + (0 : Int32))), some (.int v2)] rfl rfl (Or.inr rfl) rfl (j_iinc [some (.ref v0), some (.int (v1 + (0 : Int32))), some (.int (v2 + (1 : Int32)))] (v2 + (1 : Int32)) rfl rfl (by rw [k32_1]) (Or.inr rfl) rfl (j_goto rfl (g))))))) (l_Mo_piecesOf_L8 hd v0 hX n (v1 + (0 : Int32)) (v2 + (1 : Int32)) σ3)
    exact J_some (fun h => j_icmp_t rfl (cc_ge_t h1) (j_weak (l := [none, some (.int v1), none]) (And.intro (Or.inl rfl) (And.intro (Or.inr rfl) (And.intro (Or.inl rfl) True.intro))) (hX _ _ h)))

set_option maxRecDepth 100000 in
theorem b_Mo_piecesOf {fo : Option Nat} {d : Nat} (hd : 6 ≤ d + 1) {o : q_O} {σ' : q_H} (v0 : Nat) (σ : q_H) : q_J (fun (r : Int32) (σ1 : q_H) => o = .inl (some (.int r)) ∧ σ' = σ1) (f_Mo_piecesOf v0 σ) (q_G (q_rf fo) d m_Mo_piecesOf o σ' 0 [some (.ref v0), none, none] [] σ) := by
  unfold f_Mo_piecesOf
  refine J_bind fun w1 hw1 => ?_
  refine J_cl fun _ σ2 hσ2 => ?_
  refine J_sq (fun (t4 : Int32) (σ5 : q_H) => q_G (q_rf fo) d m_Mo_piecesOf o σ' 46 [none, some (.int t4), none] [] σ5) (q_J.step (fun g => j_aload_n rfl rfl (j_v0 [.ref v0] [] rfl rfl rfl rfl rfl rfl hw1 (Or.inl rfl) (t_Mo_houses (by omega) hσ2) (j_iconst (0 : Int32) rfl k32_0 (j_istore_n [some (.ref v0), some (.int (0 : Int32)), none] rfl rfl (Or.inr rfl) rfl (j_iconst (0 : Int32) rfl k32_0 (j_istore_n [some (.ref v0), some (.int (0 : Int32)), some (.int (0 : Int32))] rfl rfl (Or.inr rfl) rfl (g))))))) (l_Mo_piecesOf_L8 hd v0 (fun _ _ h => h) q_FU (0 : Int32) (0 : Int32) σ2)) (fun t4 σ5 => ?_)
  exact J_some (fun h => j_iload_n rfl rfl (j_iret rfl rfl h))
theorem t_Mo_piecesOf {fo : Option Nat} {d : Nat} (hd : 6 ≤ d) {v0 : Nat} {σ σ1 : q_H} {r : Int32} (h : f_Mo_piecesOf v0 σ = some (r, σ1)) : q_Rel (q_rf fo) q_Ms d 279 [.ref v0] σ (.inl (some (.int r))) σ1 := by
  obtain ⟨d, rfl⟩ : ∃ d1, d = d1 + 1 := ⟨d - 1, by omega⟩
  exact q_Rel.of rfl rfl (b_Mo_piecesOf hd _ σ _ _ h ⟨rfl, rfl⟩)

set_option maxRecDepth 100000 in
theorem l_Mo_ties_L12 {fo : Option Nat} {d : Nat} (hd : 6 ≤ d + 1) {o : q_O} {σ' : q_H} {E : (Int32) → q_H → Prop} (v0 : Nat) (v2 : Int32) (hX : ∀ (t : Int32) σ1, E (t) σ1 → q_G (q_rf fo) d m_Mo_ties o σ' 82 [some (.ref v0), some (.int t), some (.int v2), none] [] σ1)  : ∀ (n : Nat) (v1 : Int32) (v3 : Int32) (σ : q_H), q_J E (f_Mo_ties_L12 v0 v2 n v1 v3 σ) (q_G (q_rf fo) d m_Mo_ties o σ' 12 [some (.ref v0), some (.int v1), some (.int v2), some (.int v3)] [] σ)
  | 0, v1, v3, σ => J_none
  | n + 1, v1, v3, σ => by
    unfold f_Mo_ties_L12
    refine J_bind fun w1 hw1 => ?_
    refine J_cl fun x3 σ2 hσ2 => ?_
    refine q_J.step (fun g => j_aload_n rfl rfl (j_iload_n rfl rfl (j_v1 [.ref v0, .int v2] [] rfl rfl rfl rfl rfl rfl hw1 (Or.inl rfl) (t_Mo_isThere (by omega) hσ2) (g)))) ?_
    refine J_ite (fun h4 => ?_) (fun h4 => ?_)
    · exact J_some (fun h => j_if_t rfl (cc_eq_t h4) (j_weak (l := [some (.ref v0), some (.int v1), some (.int v2), none]) (And.intro (Or.inr rfl) (And.intro (Or.inr rfl) (And.intro (Or.inr rfl) (And.intro (Or.inl rfl) True.intro)))) (hX _ _ h)))
    refine J_bind fun x5 hx5 => ?_
    refine J_bind fun x6 hx6 => ?_
    refine q_J.step (fun g => j_if_f rfl (cc_eq_f h4) (j_iload_n rfl rfl (j_aload_n rfl rfl (j_gfr rfl hx5 (j_iload_n rfl rfl (j_ial rfl hx6 (g))))))) ?_
    refine J_ite (fun h7 => ?_) (fun h7 => ?_)
    · refine J_bind fun w8 hw8 => ?_
      refine J_cl fun x10 σ9 hσ9 => ?_
      refine q_J.step (fun g => j_icmp_f rfl (cc_ge_f h7) (j_aload_n rfl rfl (j_iload_n rfl rfl (j_iload_n rfl rfl (j_v1 [.ref v0, .int v2, .int v3] [] rfl rfl rfl rfl rfl rfl hw8 (Or.inl rfl) (t_Mo_isWife (by omega) hσ9) (g)))))) ?_
      refine J_ite (fun h11 => ?_) (fun h11 => ?_)
      · exact q_J.step (fun g => j_if_t rfl (cc_eq_t h11) (j_iinc [some (.ref v0), some (.int v1), some (.int v2), some (.int (v3 + (1 : Int32)))] (v3 + (1 : Int32)) rfl rfl (by rw [k32_1]) (Or.inr rfl) rfl (j_goto rfl (g)))) (l_Mo_ties_L12 hd v0 v2 hX n v1 (v3 + (1 : Int32)) σ9)
      refine J_bind fun x12 hx12 => ?_
      refine J_bind fun x13 hx13 => ?_
      refine J_bind fun x14 hx14 => ?_
      refine J_bind fun w15 hw15 => ?_
      refine J_cl fun x17 σ16 hσ16 => ?_
      refine J_bind fun x18 hx18 => ?_
      refine q_J.step (fun g => j_if_f rfl (cc_eq_f h11) (j_iload_n rfl rfl (j_aload_n rfl rfl (j_gfr rfl hx12 (j_bipush (12 : Int32) rfl kb_12 (j_iload_n rfl rfl (j_imul rfl (j_iload_n rfl rfl (j_iadd rfl (j_ial rfl hx13 (j_aload_n rfl rfl (j_gfr rfl hx14 (j_aload_n rfl rfl (j_iload_n rfl rfl (g))))))))))))))) ?_
      refine q_J.step (fun g => j_iload_n rfl rfl (j_v1 [.ref v0, .int v2, .int v3] [.ref x14, .int x13, .int v1] rfl rfl rfl rfl rfl rfl hw15 (Or.inl rfl) (t_Mo_husband (by omega) hσ16) (j_ial rfl hx18 (j_ior rfl (j_bipush (12 : Int32) rfl kb_12 (j_iand rfl (g))))))) ?_
      refine J_ite (fun h19 => ?_) (fun h19 => ?_)
      · exact q_J.step (fun g => j_if_f rfl (cc_le_f h19) (j_iconst (1 : Int32) rfl k32_1 (j_goto rfl (j_iadd rfl (j_istore_n [some (.ref v0), some (.int (v1 + (1 : Int32))), some (.int v2), some (.int v3)] rfl rfl (Or.inr rfl) rfl (j_iinc [some (.ref v0), some (.int (v1 + (1 : Int32))), some (.int v2), some (.int (v3 + (1 : Int32)))] (v3 + (1 : Int32)) rfl rfl (by rw [k32_1]) (Or.inr rfl) rfl (j_goto rfl (g)))))))) (l_Mo_ties_L12 hd v0 v2 hX n (v1 + (1 : Int32)) (v3 + (1 : Int32)) σ16)
      exact q_J.step (fun g => j_if_t rfl (cc_le_t h19) (j_iconst (0 : Int32) rfl k32_0 (j_iadd rfl (j_istore_n [some (.ref v0), some (.int (v1 + (0 : Int32))), some (.int v2), some (.int v3)] rfl rfl (Or.inr rfl) rfl (j_iinc [some (.ref v0), some (.int (v1 + (0 : Int32))), some (.int v2), some (.int (v3 + (1 : Int32)))] (v3 + (1 : Int32)) rfl rfl (by rw [k32_1]) (Or.inr rfl) rfl (j_goto rfl (g))))))) (l_Mo_ties_L12 hd v0 v2 hX n (v1 + (0 : Int32)) (v3 + (1 : Int32)) σ16)
    exact J_some (fun h => j_icmp_t rfl (cc_ge_t h7) (j_weak (l := [some (.ref v0), some (.int v1), some (.int v2), none]) (And.intro (Or.inr rfl) (And.intro (Or.inr rfl) (And.intro (Or.inr rfl) (And.intro (Or.inl rfl) True.intro)))) (hX _ _ h)))

set_option maxRecDepth 100000 in
theorem l_Mo_ties_L4 {fo : Option Nat} {d : Nat} (hd : 6 ≤ d + 1) {o : q_O} {σ' : q_H} {E : (Int32) → q_H → Prop} (v0 : Nat) (hX : ∀ (t : Int32) σ1, E (t) σ1 → q_G (q_rf fo) d m_Mo_ties o σ' 88 [none, some (.int t), none, none] [] σ1)  : ∀ (n : Nat) (v1 : Int32) (v2 : Int32) (σ : q_H), q_J E (f_Mo_ties_L4 v0 n v1 v2 σ) (q_G (q_rf fo) d m_Mo_ties o σ' 4 [some (.ref v0), some (.int v1), some (.int v2), none] [] σ)
  | 0, v1, v2, σ => J_none
  | n + 1, v1, v2, σ => by
    unfold f_Mo_ties_L4
    refine q_J.step (fun g => j_iload_n rfl rfl (j_bipush (24 : Int32) rfl kb_24 (g))) ?_
    refine J_ite (fun h1 => ?_) (fun h1 => ?_)
    · refine J_sq (fun (t2 : Int32) (σ3 : q_H) => q_G (q_rf fo) d m_Mo_ties o σ' 82 [some (.ref v0), some (.int t2), some (.int v2), none] [] σ3) (q_J.step (fun g => j_icmp_f rfl (cc_ge_f h1) (j_iconst (0 : Int32) rfl k32_0 (j_istore_n [some (.ref v0), some (.int v1), some (.int v2), some (.int (0 : Int32))] rfl rfl (Or.inr rfl) rfl (g)))) (l_Mo_ties_L12 hd v0 v2 (fun _ _ h => h) q_FU v1 (0 : Int32) σ)) (fun t2 σ3 => ?_)
      exact q_J.step (fun g => j_iinc [some (.ref v0), some (.int t2), some (.int (v2 + (1 : Int32))), none] (v2 + (1 : Int32)) rfl rfl (by rw [k32_1]) (Or.inr rfl) rfl (j_goto rfl (g))) (l_Mo_ties_L4 hd v0 hX n t2 (v2 + (1 : Int32)) σ3)
    exact J_some (fun h => j_icmp_t rfl (cc_ge_t h1) (j_weak (l := [none, some (.int v1), none, none]) (And.intro (Or.inl rfl) (And.intro (Or.inr rfl) (And.intro (Or.inl rfl) (And.intro (Or.inr rfl) True.intro)))) (hX _ _ h)))

set_option maxRecDepth 100000 in
theorem b_Mo_ties {fo : Option Nat} {d : Nat} (hd : 6 ≤ d + 1) {o : q_O} {σ' : q_H} (v0 : Nat) (σ : q_H) : q_J (fun (r : Int32) (σ1 : q_H) => o = .inl (some (.int r)) ∧ σ' = σ1) (f_Mo_ties v0 σ) (q_G (q_rf fo) d m_Mo_ties o σ' 0 [some (.ref v0), none, none, none] [] σ) := by
  unfold f_Mo_ties
  refine J_sq (fun (t1 : Int32) (σ2 : q_H) => q_G (q_rf fo) d m_Mo_ties o σ' 88 [none, some (.int t1), none, none] [] σ2) (q_J.step (fun g => j_iconst (0 : Int32) rfl k32_0 (j_istore_n [some (.ref v0), some (.int (0 : Int32)), none, none] rfl rfl (Or.inr rfl) rfl (j_iconst (0 : Int32) rfl k32_0 (j_istore_n [some (.ref v0), some (.int (0 : Int32)), some (.int (0 : Int32)), none] rfl rfl (Or.inr rfl) rfl (g))))) (l_Mo_ties_L4 hd v0 (fun _ _ h => h) q_FU (0 : Int32) (0 : Int32) σ)) (fun t1 σ2 => ?_)
  exact J_some (fun h => j_iload_n rfl rfl (j_iret rfl rfl h))
theorem t_Mo_ties {fo : Option Nat} {d : Nat} (hd : 6 ≤ d) {v0 : Nat} {σ σ1 : q_H} {r : Int32} (h : f_Mo_ties v0 σ = some (r, σ1)) : q_Rel (q_rf fo) q_Ms d 280 [.ref v0] σ (.inl (some (.int r))) σ1 := by
  obtain ⟨d, rfl⟩ : ∃ d1, d = d1 + 1 := ⟨d - 1, by omega⟩
  exact q_Rel.of rfl rfl (b_Mo_ties hd _ σ _ _ h ⟨rfl, rfl⟩)

set_option maxRecDepth 100000 in
theorem b_Mo_marriages {fo : Option Nat} {d : Nat} (hd : 7 ≤ d + 1) {o : q_O} {σ' : q_H} (v0 : Nat) (v1 : Int32) (v2 : Int32) (v3 : Int32) (σ : q_H) : q_J (fun (r : Int32) (σ1 : q_H) => o = .inl (some (.int r)) ∧ σ' = σ1) (f_Mo_marriages v0 v1 v2 v3 σ) (q_G (q_rf fo) d m_Mo_marriages o σ' 0 [some (.ref v0), some (.int v1), some (.int v2), some (.int v3)] [] σ) := by
  unfold f_Mo_marriages
  refine J_bind fun σ1 hσ1 => ?_
  refine J_bind fun w2 hw2 => ?_
  refine J_cl fun x4 σ3 hσ3 => ?_
  refine q_J.step (fun g => j_aload_n rfl rfl (j_iconst (0 : Int32) rfl k32_0 (j_putf rfl rfl rfl rfl hσ1 (j_aload_n rfl rfl (j_iload_n rfl rfl (j_iload_n rfl rfl (j_v1 [.ref v0, .int v1, .int v2] [] rfl rfl rfl rfl rfl rfl hw2 (Or.inl rfl) (t_Mo_isScope (by omega) hσ3) (g)))))))) ?_
  refine J_ite (fun h5 => ?_) (fun h5 => ?_)
  · exact J_some (fun h => j_if_t rfl (cc_eq_t h5) (j_iconst (-1 : Int32) rfl k32_m1 (j_iret rfl rfl h)))
  refine J_cl fun x7 σ6 hσ6 => ?_
  refine q_J.step (fun g => j_if_f rfl (cc_eq_f h5) (j_iload_n rfl rfl (j_iconst (-1 : Int32) rfl k32_m1 (j_iconst (4 : Int32) rfl k32_4 (j_s1 [.int v3, .int (-1 : Int32), .int (4 : Int32)] [] rfl rfl rfl rfl rfl (t_Mo_within (by omega) hσ6) (g)))))) ?_
  refine J_ite (fun h8 => ?_) (fun h8 => ?_)
  · exact J_some (fun h => j_if_t rfl (cc_eq_t h8) (j_iconst (-1 : Int32) rfl k32_m1 (j_iret rfl rfl h)))
  refine q_J.step (fun g => j_if_f rfl (cc_eq_f h8) (j_aload_n rfl rfl (j_iload_n rfl rfl (j_iload_n rfl rfl (j_iconst (-1 : Int32) rfl k32_m1 (j_iload_n rfl rfl (g))))))) ?_
  refine J_sq (fun (t10 : Int32) (σ11 : q_H) => q_G (q_rf fo) d m_Mo_marriages o σ' 39 [none, none, none, none] [.int t10, .int (-1 : Int32), .int v2, .int v1, .ref v0] σ11) ?_ (fun t10 σ11 => ?_)
  · refine J_ite (fun h9 => ?_) (fun h9 => ?_)
    · exact J_some (fun h => j_if_f rfl (cc_ge_f h9) (j_bipush (31 : Int32) rfl kb_31 (j_goto rfl (j_weak (l := [none, none, none, none]) (And.intro (Or.inl rfl) (And.intro (Or.inl rfl) (And.intro (Or.inl rfl) (And.intro (Or.inl rfl) True.intro)))) (h)))))
    exact J_some (fun h => j_if_t rfl (cc_ge_t h9) (j_iconst (1 : Int32) rfl k32_1 (j_iload_n rfl rfl (j_ishl rfl (j_weak (l := [none, none, none, none]) (And.intro (Or.inl rfl) (And.intro (Or.inl rfl) (And.intro (Or.inl rfl) (And.intro (Or.inl rfl) True.intro)))) (h))))))
  refine J_bind fun w12 hw12 => ?_
  refine J_cl fun x14 σ13 hσ13 => ?_
  exact J_some (fun h => j_iconst (2 : Int32) rfl k32_2 (j_v1 [.ref v0, .int v1, .int v2, .int (-1 : Int32), .int t10, .int (2 : Int32)] [] rfl rfl rfl rfl rfl rfl hw12 (Or.inl rfl) (t_Mo_countOf (by omega) hσ13) (j_goto rfl (j_iret rfl rfl h))))
theorem t_Mo_marriages {fo : Option Nat} {d : Nat} (hd : 7 ≤ d) {v0 : Nat} {v1 : Int32} {v2 : Int32} {v3 : Int32} {σ σ1 : q_H} {r : Int32} (h : f_Mo_marriages v0 v1 v2 v3 σ = some (r, σ1)) : q_Rel (q_rf fo) q_Ms d 203 [.ref v0, .int v1, .int v2, .int v3] σ (.inl (some (.int r))) σ1 := by
  obtain ⟨d, rfl⟩ : ∃ d1, d = d1 + 1 := ⟨d - 1, by omega⟩
  exact q_Rel.of rfl rfl (b_Mo_marriages hd _ _ _ _ σ _ _ h ⟨rfl, rfl⟩)

set_option maxRecDepth 100000 in
theorem b_Mo_share {fo : Option Nat} {d : Nat} (hd : 7 ≤ d + 1) {o : q_O} {σ' : q_H} (v0 : Nat) (v1 : Int32) (v2 : Int32) (v3 : Int32) (v4 : Int32) (σ : q_H) : q_J (fun (r : Int32) (σ1 : q_H) => o = .inl (some (.int r)) ∧ σ' = σ1) (f_Mo_share v0 v1 v2 v3 v4 σ) (q_G (q_rf fo) d m_Mo_share o σ' 0 [some (.ref v0), some (.int v1), some (.int v2), some (.int v3), some (.int v4), none] [] σ) := by
  unfold f_Mo_share
  refine J_bind fun σ1 hσ1 => ?_
  refine J_bind fun w2 hw2 => ?_
  refine J_cl fun x4 σ3 hσ3 => ?_
  refine q_J.step (fun g => j_aload_n rfl rfl (j_iconst (0 : Int32) rfl k32_0 (j_putf rfl rfl rfl rfl hσ1 (j_aload_n rfl rfl (j_iload_n rfl rfl (j_iload_n rfl rfl (j_v1 [.ref v0, .int v1, .int v2] [] rfl rfl rfl rfl rfl rfl hw2 (Or.inl rfl) (t_Mo_isScope (by omega) hσ3) (g)))))))) ?_
  refine J_ite (fun h5 => ?_) (fun h5 => ?_)
  · exact J_some (fun h => j_if_t rfl (cc_eq_t h5) (j_iconst (-1 : Int32) rfl k32_m1 (j_iret rfl rfl h)))
  refine J_cl fun x7 σ6 hσ6 => ?_
  refine q_J.step (fun g => j_if_f rfl (cc_eq_f h5) (j_iload_n rfl rfl (j_iconst (0 : Int32) rfl k32_0 (j_iconst (2 : Int32) rfl k32_2 (j_s1 [.int v3, .int (0 : Int32), .int (2 : Int32)] [] rfl rfl rfl rfl rfl (t_Mo_within (by omega) hσ6) (g)))))) ?_
  refine J_ite (fun h8 => ?_) (fun h8 => ?_)
  · exact J_some (fun h => j_if_t rfl (cc_eq_t h8) (j_iconst (-1 : Int32) rfl k32_m1 (j_iret rfl rfl h)))
  refine J_cl fun x10 σ9 hσ9 => ?_
  refine q_J.step (fun g => j_if_f rfl (cc_eq_f h8) (j_iload rfl rfl (j_iconst (0 : Int32) rfl k32_0 (j_iconst (1 : Int32) rfl k32_1 (j_s1 [.int v4, .int (0 : Int32), .int (1 : Int32)] [] rfl rfl rfl rfl rfl (t_Mo_within (by omega) hσ9) (g)))))) ?_
  refine J_ite (fun h11 => ?_) (fun h11 => ?_)
  · exact J_some (fun h => j_if_f rfl (cc_ne_f h11) (j_iconst (-1 : Int32) rfl k32_m1 (j_iret rfl rfl h)))
  refine J_bind fun w12 hw12 => ?_
  refine J_cl fun x14 σ13 hσ13 => ?_
  refine q_J.step (fun g => j_if_t rfl (cc_ne_t h11) (j_aload_n rfl rfl (j_iload_n rfl rfl (j_iload_n rfl rfl (j_iconst (-1 : Int32) rfl k32_m1 (j_bipush (31 : Int32) rfl kb_31 (j_iconst (2 : Int32) rfl k32_2 (j_v1 [.ref v0, .int v1, .int v2, .int (-1 : Int32), .int (31 : Int32), .int (2 : Int32)] [] rfl rfl rfl rfl rfl rfl hw12 (Or.inl rfl) (t_Mo_countOf (by omega) hσ13) (j_istore [some (.ref v0), some (.int v1), some (.int v2), some (.int v3), some (.int v4), some (.int x14)] rfl rfl (Or.inr rfl) rfl (j_iload rfl rfl (g))))))))))) ?_
  refine J_ite (fun h15 => ?_) (fun h15 => ?_)
  · exact J_some (fun h => j_if_f rfl (cc_ne_f h15) (j_iconst (-1 : Int32) rfl k32_m1 (j_goto rfl (j_iret rfl rfl h))))
  refine J_cl fun x17 σ16 hσ16 => ?_
  refine J_bind fun w18 hw18 => ?_
  refine J_cl fun x20 σ19 hσ19 => ?_
  refine J_cl fun x22 σ21 hσ21 => ?_
  exact J_some (fun h => j_if_t rfl (cc_ne_t h15) (j_aload_n rfl rfl (j_iload_n rfl rfl (j_iload_n rfl rfl (j_iconst (-1 : Int32) rfl k32_m1 (j_iload_n rfl rfl (j_s1 [.int v3] [.int (-1 : Int32), .int v2, .int v1, .ref v0] rfl rfl rfl rfl rfl (t_Mo_sorts (by omega) hσ16) (j_iconst (2 : Int32) rfl k32_2 (j_v1 [.ref v0, .int v1, .int v2, .int (-1 : Int32), .int x17, .int (2 : Int32)] [] rfl rfl rfl rfl rfl rfl hw18 (Or.inl rfl) (t_Mo_countOf (by omega) hσ19) (j_i2l rfl (j_iload rfl rfl (j_i2l rfl (j_iload rfl rfl (j_s1 [.long x20.toInt64, .long x14.toInt64, .int v4] [] rfl rfl rfl rfl rfl (t_Mo_lowest (by omega) hσ21) (j_l2i rfl (j_iret rfl rfl h))))))))))))))))
theorem t_Mo_share {fo : Option Nat} {d : Nat} (hd : 7 ≤ d) {v0 : Nat} {v1 : Int32} {v2 : Int32} {v3 : Int32} {v4 : Int32} {σ σ1 : q_H} {r : Int32} (h : f_Mo_share v0 v1 v2 v3 v4 σ = some (r, σ1)) : q_Rel (q_rf fo) q_Ms d 209 [.ref v0, .int v1, .int v2, .int v3, .int v4] σ (.inl (some (.int r))) σ1 := by
  obtain ⟨d, rfl⟩ : ∃ d1, d = d1 + 1 := ⟨d - 1, by omega⟩
  exact q_Rel.of rfl rfl (b_Mo_share hd _ _ _ _ _ σ _ _ h ⟨rfl, rfl⟩)

set_option maxRecDepth 100000 in
theorem b_Mo_moves {fo : Option Nat} {d : Nat} (hd : 7 ≤ d + 1) {o : q_O} {σ' : q_H} (v0 : Nat) (v1 : Int32) (σ : q_H) : q_J (fun (r : Int32) (σ1 : q_H) => o = .inl (some (.int r)) ∧ σ' = σ1) (f_Mo_moves v0 v1 σ) (q_G (q_rf fo) d m_Mo_moves o σ' 0 [some (.ref v0), some (.int v1), none, none, none, none] [] σ) := by
  unfold f_Mo_moves
  refine J_bind fun w1 hw1 => ?_
  refine J_cl fun x3 σ2 hσ2 => ?_
  refine q_J.step (fun g => j_aload_n rfl rfl (j_iload_n rfl rfl (j_v1 [.ref v0, .int v1] [] rfl rfl rfl rfl rfl rfl hw1 (Or.inl rfl) (t_Mo_isThere (by omega) hσ2) (g)))) ?_
  refine J_ite (fun h4 => ?_) (fun h4 => ?_)
  · exact J_some (fun h => j_if_f rfl (cc_ne_f h4) (j_iconst (0 : Int32) rfl k32_0 (j_iret rfl (q_zr (Or.inl rfl)) h)))
  refine J_bind fun w5 hw5 => ?_
  refine J_cl fun x7 σ6 hσ6 => ?_
  refine J_bind fun w8 hw8 => ?_
  refine J_cl fun x10 σ9 hσ9 => ?_
  refine q_J.step (fun g => j_if_t rfl (cc_ne_t h4) (j_aload_n rfl rfl (j_iconst (0 : Int32) rfl k32_0 (j_iconst (0 : Int32) rfl k32_0 (j_iconst (-1 : Int32) rfl k32_m1 (j_bipush (31 : Int32) rfl kb_31 (j_iconst (2 : Int32) rfl k32_2 (j_v1 [.ref v0, .int (0 : Int32), .int (0 : Int32), .int (-1 : Int32), .int (31 : Int32), .int (2 : Int32)] [] rfl rfl rfl rfl rfl rfl hw5 (Or.inl rfl) (t_Mo_countOf (by omega) hσ6) (j_i2l rfl (j_lstore_n [some (.ref v0), some (.int v1), some (.long x7.toInt64), none, none, none] rfl rfl (Or.inr rfl) rfl (j_aload_n rfl rfl (j_iconst (0 : Int32) rfl k32_0 (j_iconst (0 : Int32) rfl k32_0 (j_iload_n rfl rfl (g))))))))))))))) ?_
  refine q_J.step (fun g => j_bipush (31 : Int32) rfl kb_31 (j_iconst (2 : Int32) rfl k32_2 (j_v1 [.ref v0, .int (0 : Int32), .int (0 : Int32), .int v1, .int (31 : Int32), .int (2 : Int32)] [] rfl rfl rfl rfl rfl rfl hw8 (Or.inl rfl) (t_Mo_countOf (by omega) hσ9) (j_i2l rfl (j_lstore [some (.ref v0), some (.int v1), some (.long x7.toInt64), none, some (.long x10.toInt64), none] rfl rfl (Or.inr True.intro) rfl (j_lload_n rfl rfl (j_lconst (0 : Int64) rfl kl_0 (j_lcmp rfl (g))))))))) ?_
  refine J_ite (fun h11 => ?_) (fun h11 => ?_)
  · exact J_some (fun h => j_if_t rfl (lc_eq_t h11) (j_iconst (0 : Int32) rfl k32_0 (j_iret rfl (q_zr (Or.inl rfl)) h)))
  refine q_J.step (fun g => j_if_f rfl (lc_eq_f h11) (j_lload rfl rfl (j_lconst (0 : Int64) rfl kl_0 (j_lcmp rfl (g))))) ?_
  refine J_ite (fun h12 => ?_) (fun h12 => ?_)
  · exact J_some (fun h => j_if_f rfl (lc_ne_f h12) (j_iconst (0 : Int32) rfl k32_0 (j_iret rfl (q_zr (Or.inl rfl)) h)))
  refine J_bind fun w13 hw13 => ?_
  refine J_cl fun x15 σ14 hσ14 => ?_
  refine J_bind fun w16 hw16 => ?_
  refine J_cl fun x18 σ17 hσ17 => ?_
  refine J_bind fun σ19 hσ19 => ?_
  refine J_bind fun σ20 hσ20 => ?_
  exact J_some (fun h => j_if_t rfl (lc_ne_t h12) (j_aload_n rfl rfl (j_aload_n rfl rfl (j_iconst (0 : Int32) rfl k32_0 (j_iconst (0 : Int32) rfl k32_0 (j_iload_n rfl rfl (j_iconst (1 : Int32) rfl k32_1 (j_iconst (2 : Int32) rfl k32_2 (j_v1 [.ref v0, .int (0 : Int32), .int (0 : Int32), .int v1, .int (1 : Int32), .int (2 : Int32)] [.ref v0] rfl rfl rfl rfl rfl rfl hw13 (Or.inl rfl) (t_Mo_countOf (by omega) hσ14) (j_i2l rfl (j_lload_n rfl rfl (j_lmul rfl (j_aload_n rfl rfl (j_iconst (0 : Int32) rfl k32_0 (j_iconst (0 : Int32) rfl k32_0 (j_iconst (-1 : Int32) rfl k32_m1 (j_iconst (1 : Int32) rfl k32_1 (j_iconst (2 : Int32) rfl k32_2 (j_v1 [.ref v0, .int (0 : Int32), .int (0 : Int32), .int (-1 : Int32), .int (1 : Int32), .int (2 : Int32)] [.long (x15.toInt64 * x7.toInt64), .ref v0] rfl rfl rfl rfl rfl rfl hw16 (Or.inl rfl) (t_Mo_countOf (by omega) hσ17) (j_i2l rfl (j_lload rfl rfl (j_lmul rfl (j_lsub rfl (j_putf rfl rfl rfl rfl hσ19 (j_aload_n rfl rfl (j_lload_n rfl rfl (j_lload rfl rfl (j_lmul rfl (j_putf rfl rfl rfl rfl hσ20 (j_iconst (1 : Int32) rfl k32_1 (j_iret rfl (q_zr (Or.inr rfl)) h)))))))))))))))))))))))))))))))
theorem t_Mo_moves {fo : Option Nat} {d : Nat} (hd : 7 ≤ d) {v0 : Nat} {v1 : Int32} {σ σ1 : q_H} {r : Int32} (h : f_Mo_moves v0 v1 σ = some (r, σ1)) : q_Rel (q_rf fo) q_Ms d 213 [.ref v0, .int v1] σ (.inl (some (.int r))) σ1 := by
  obtain ⟨d, rfl⟩ : ∃ d1, d = d1 + 1 := ⟨d - 1, by omega⟩
  exact q_Rel.of rfl rfl (b_Mo_moves hd _ _ σ _ _ h ⟨rfl, rfl⟩)

set_option maxRecDepth 100000 in
theorem b_Mo_lean {fo : Option Nat} {d : Nat} (hd : 7 ≤ d + 1) {o : q_O} {σ' : q_H} (v0 : Nat) (v1 : Int32) (σ : q_H) : q_J (fun (r : Int32) (σ1 : q_H) => o = .inl (some (.int r)) ∧ σ' = σ1) (f_Mo_lean v0 v1 σ) (q_G (q_rf fo) d m_Mo_lean o σ' 0 [some (.ref v0), some (.int v1), none, none, none, none] [] σ) := by
  unfold f_Mo_lean
  refine J_bind fun w1 hw1 => ?_
  refine J_cl fun x3 σ2 hσ2 => ?_
  refine J_bind fun w4 hw4 => ?_
  refine J_cl fun x6 σ5 hσ5 => ?_
  refine J_cl fun x8 σ7 hσ7 => ?_
  refine q_J.step (fun g => j_aload_n rfl rfl (j_iconst (3 : Int32) rfl k32_3 (j_iconst (0 : Int32) rfl k32_0 (j_iconst (-1 : Int32) rfl k32_m1 (j_bipush (31 : Int32) rfl kb_31 (j_iconst (2 : Int32) rfl k32_2 (j_v1 [.ref v0, .int (3 : Int32), .int (0 : Int32), .int (-1 : Int32), .int (31 : Int32), .int (2 : Int32)] [] rfl rfl rfl rfl rfl rfl hw1 (Or.inl rfl) (t_Mo_countOf (by omega) hσ2) (j_i2l rfl (j_lstore_n [some (.ref v0), some (.int v1), some (.long x3.toInt64), none, none, none] rfl rfl (Or.inr rfl) rfl (j_aload_n rfl rfl (j_iconst (3 : Int32) rfl k32_3 (j_iconst (1 : Int32) rfl k32_1 (j_iconst (-1 : Int32) rfl k32_m1 (j_bipush (31 : Int32) rfl kb_31 (g))))))))))))))) ?_
  refine q_J.step (fun g => j_iconst (2 : Int32) rfl k32_2 (j_v1 [.ref v0, .int (3 : Int32), .int (1 : Int32), .int (-1 : Int32), .int (31 : Int32), .int (2 : Int32)] [] rfl rfl rfl rfl rfl rfl hw4 (Or.inl rfl) (t_Mo_countOf (by omega) hσ5) (j_i2l rfl (j_lstore [some (.ref v0), some (.int v1), some (.long x3.toInt64), none, some (.long x6.toInt64), none] rfl rfl (Or.inr True.intro) rfl (j_aload_n rfl rfl (j_iload_n rfl rfl (j_iconst (0 : Int32) rfl k32_0 (j_iconst (1 : Int32) rfl k32_1 (j_s1 [.int v1, .int (0 : Int32), .int (1 : Int32)] [.ref v0] rfl rfl rfl rfl rfl (t_Mo_within (by omega) hσ7) (g)))))))))) ?_
  refine J_ite (fun h9 => ?_) (fun h9 => ?_)
  · refine J_bind fun σ10 hσ10 => ?_
    refine J_bind fun x11 hx11 => ?_
    refine q_J.step (fun g => j_if_t rfl (cc_eq_t h9) (j_iconst (1 : Int32) rfl k32_1 (j_putf rfl rfl rfl rfl hσ10 (j_aload_n rfl rfl (j_gfi rfl hx11 (j_iconst (1 : Int32) rfl k32_1 (g))))))) ?_
    refine J_ite (fun h12 => ?_) (fun h12 => ?_)
    · exact J_some (fun h => j_icmp_f rfl (cc_ne_f h12) (j_iconst (0 : Int32) rfl k32_0 (j_goto rfl (j_iret rfl rfl h))))
    refine J_bind fun w13 hw13 => ?_
    refine J_cl fun x15 σ14 hσ14 => ?_
    refine J_bind fun w16 hw16 => ?_
    refine J_cl fun x18 σ17 hσ17 => ?_
    refine J_cl fun x20 σ19 hσ19 => ?_
    exact J_some (fun h => j_icmp_t rfl (cc_ne_t h12) (j_aload_n rfl rfl (j_iconst (3 : Int32) rfl k32_3 (j_iconst (0 : Int32) rfl k32_0 (j_iconst (-1 : Int32) rfl k32_m1 (j_iconst (1 : Int32) rfl k32_1 (j_iconst (2 : Int32) rfl k32_2 (j_v1 [.ref v0, .int (3 : Int32), .int (0 : Int32), .int (-1 : Int32), .int (1 : Int32), .int (2 : Int32)] [] rfl rfl rfl rfl rfl rfl hw13 (Or.inl rfl) (t_Mo_countOf (by omega) hσ14) (j_i2l rfl (j_lload rfl rfl (j_lmul rfl (j_aload_n rfl rfl (j_iconst (3 : Int32) rfl k32_3 (j_iconst (1 : Int32) rfl k32_1 (j_iconst (-1 : Int32) rfl k32_m1 (j_iconst (1 : Int32) rfl k32_1 (j_iconst (2 : Int32) rfl k32_2 (j_v1 [.ref v0, .int (3 : Int32), .int (1 : Int32), .int (-1 : Int32), .int (1 : Int32), .int (2 : Int32)] [.long (x15.toInt64 * x6.toInt64)] rfl rfl rfl rfl rfl rfl hw16 (Or.inl rfl) (t_Mo_countOf (by omega) hσ17) (j_i2l rfl (j_lload_n rfl rfl (j_lmul rfl (j_lsub rfl (j_lload_n rfl rfl (j_lload rfl rfl (j_lmul rfl (j_iload_n rfl rfl (j_s1 [.long ((x15.toInt64 * x6.toInt64) - (x18.toInt64 * x3.toInt64)), .long (x3.toInt64 * x6.toInt64), .int v1] [] rfl rfl rfl rfl rfl (t_Mo_lowest (by omega) hσ19) (j_l2i rfl (j_iret rfl rfl h)))))))))))))))))))))))))))))
  refine q_J.step (fun g => j_if_f rfl (cc_eq_f h9) (j_lload_n rfl rfl (j_lconst (0 : Int64) rfl kl_0 (j_lcmp rfl (g))))) ?_
  refine J_ite (fun h21 => ?_) (fun h21 => ?_)
  · refine q_J.step (fun g => j_if_f rfl (lc_le_f h21) (j_lload rfl rfl (j_lconst (0 : Int64) rfl kl_0 (j_lcmp rfl (g))))) ?_
    refine J_sq (fun (t23 : Int32) (σ24 : q_H) => q_G (q_rf fo) d m_Mo_lean o σ' 53 [some (.ref v0), some (.int v1), some (.long x3.toInt64), none, some (.long x6.toInt64), none] [.int t23, .ref v0] σ24) ?_ (fun t23 σ24 => ?_)
    · refine J_ite (fun h22 => ?_) (fun h22 => ?_)
      · exact J_some (fun h => j_if_f rfl (lc_le_f h22) (j_iconst (0 : Int32) rfl k32_0 (j_goto rfl (h))))
      exact J_some (fun h => j_if_t rfl (lc_le_t h22) (j_iconst (1 : Int32) rfl k32_1 (h)))
    refine J_bind fun σ25 hσ25 => ?_
    refine J_bind fun x26 hx26 => ?_
    refine q_J.step (fun g => j_putf rfl rfl rfl rfl hσ25 (j_aload_n rfl rfl (j_gfi rfl hx26 (j_iconst (1 : Int32) rfl k32_1 (g))))) ?_
    refine J_ite (fun h27 => ?_) (fun h27 => ?_)
    · exact J_some (fun h => j_icmp_f rfl (cc_ne_f h27) (j_iconst (0 : Int32) rfl k32_0 (j_goto rfl (j_iret rfl rfl h))))
    refine J_bind fun w28 hw28 => ?_
    refine J_cl fun x30 σ29 hσ29 => ?_
    refine J_bind fun w31 hw31 => ?_
    refine J_cl fun x33 σ32 hσ32 => ?_
    refine J_cl fun x35 σ34 hσ34 => ?_
    exact J_some (fun h => j_icmp_t rfl (cc_ne_t h27) (j_aload_n rfl rfl (j_iconst (3 : Int32) rfl k32_3 (j_iconst (0 : Int32) rfl k32_0 (j_iconst (-1 : Int32) rfl k32_m1 (j_iconst (1 : Int32) rfl k32_1 (j_iconst (2 : Int32) rfl k32_2 (j_v1 [.ref v0, .int (3 : Int32), .int (0 : Int32), .int (-1 : Int32), .int (1 : Int32), .int (2 : Int32)] [] rfl rfl rfl rfl rfl rfl hw28 (Or.inl rfl) (t_Mo_countOf (by omega) hσ29) (j_i2l rfl (j_lload rfl rfl (j_lmul rfl (j_aload_n rfl rfl (j_iconst (3 : Int32) rfl k32_3 (j_iconst (1 : Int32) rfl k32_1 (j_iconst (-1 : Int32) rfl k32_m1 (j_iconst (1 : Int32) rfl k32_1 (j_iconst (2 : Int32) rfl k32_2 (j_v1 [.ref v0, .int (3 : Int32), .int (1 : Int32), .int (-1 : Int32), .int (1 : Int32), .int (2 : Int32)] [.long (x30.toInt64 * x6.toInt64)] rfl rfl rfl rfl rfl rfl hw31 (Or.inl rfl) (t_Mo_countOf (by omega) hσ32) (j_i2l rfl (j_lload_n rfl rfl (j_lmul rfl (j_lsub rfl (j_lload_n rfl rfl (j_lload rfl rfl (j_lmul rfl (j_iload_n rfl rfl (j_s1 [.long ((x30.toInt64 * x6.toInt64) - (x33.toInt64 * x3.toInt64)), .long (x3.toInt64 * x6.toInt64), .int v1] [] rfl rfl rfl rfl rfl (t_Mo_lowest (by omega) hσ34) (j_l2i rfl (j_iret rfl rfl h)))))))))))))))))))))))))))))
  refine J_bind fun σ36 hσ36 => ?_
  refine J_bind fun x37 hx37 => ?_
  refine q_J.step (fun g => j_if_t rfl (lc_le_t h21) (j_iconst (1 : Int32) rfl k32_1 (j_putf rfl rfl rfl rfl hσ36 (j_aload_n rfl rfl (j_gfi rfl hx37 (j_iconst (1 : Int32) rfl k32_1 (g))))))) ?_
  refine J_ite (fun h38 => ?_) (fun h38 => ?_)
  · exact J_some (fun h => j_icmp_f rfl (cc_ne_f h38) (j_iconst (0 : Int32) rfl k32_0 (j_goto rfl (j_iret rfl rfl h))))
  refine J_bind fun w39 hw39 => ?_
  refine J_cl fun x41 σ40 hσ40 => ?_
  refine J_bind fun w42 hw42 => ?_
  refine J_cl fun x44 σ43 hσ43 => ?_
  refine J_cl fun x46 σ45 hσ45 => ?_
  exact J_some (fun h => j_icmp_t rfl (cc_ne_t h38) (j_aload_n rfl rfl (j_iconst (3 : Int32) rfl k32_3 (j_iconst (0 : Int32) rfl k32_0 (j_iconst (-1 : Int32) rfl k32_m1 (j_iconst (1 : Int32) rfl k32_1 (j_iconst (2 : Int32) rfl k32_2 (j_v1 [.ref v0, .int (3 : Int32), .int (0 : Int32), .int (-1 : Int32), .int (1 : Int32), .int (2 : Int32)] [] rfl rfl rfl rfl rfl rfl hw39 (Or.inl rfl) (t_Mo_countOf (by omega) hσ40) (j_i2l rfl (j_lload rfl rfl (j_lmul rfl (j_aload_n rfl rfl (j_iconst (3 : Int32) rfl k32_3 (j_iconst (1 : Int32) rfl k32_1 (j_iconst (-1 : Int32) rfl k32_m1 (j_iconst (1 : Int32) rfl k32_1 (j_iconst (2 : Int32) rfl k32_2 (j_v1 [.ref v0, .int (3 : Int32), .int (1 : Int32), .int (-1 : Int32), .int (1 : Int32), .int (2 : Int32)] [.long (x41.toInt64 * x6.toInt64)] rfl rfl rfl rfl rfl rfl hw42 (Or.inl rfl) (t_Mo_countOf (by omega) hσ43) (j_i2l rfl (j_lload_n rfl rfl (j_lmul rfl (j_lsub rfl (j_lload_n rfl rfl (j_lload rfl rfl (j_lmul rfl (j_iload_n rfl rfl (j_s1 [.long ((x41.toInt64 * x6.toInt64) - (x44.toInt64 * x3.toInt64)), .long (x3.toInt64 * x6.toInt64), .int v1] [] rfl rfl rfl rfl rfl (t_Mo_lowest (by omega) hσ45) (j_l2i rfl (j_iret rfl rfl h)))))))))))))))))))))))))))))
theorem t_Mo_lean {fo : Option Nat} {d : Nat} (hd : 7 ≤ d) {v0 : Nat} {v1 : Int32} {σ σ1 : q_H} {r : Int32} (h : f_Mo_lean v0 v1 σ = some (r, σ1)) : q_Rel (q_rf fo) q_Ms d 215 [.ref v0, .int v1] σ (.inl (some (.int r))) σ1 := by
  obtain ⟨d, rfl⟩ : ∃ d1, d = d1 + 1 := ⟨d - 1, by omega⟩
  exact q_Rel.of rfl rfl (b_Mo_lean hd _ _ σ _ _ h ⟨rfl, rfl⟩)

set_option maxRecDepth 100000 in
theorem l_Mo_bounds_L9 {fo : Option Nat} {d : Nat} (hd : 7 ≤ d + 1) {o : q_O} {σ' : q_H} {E : (Int32) → q_H → Prop} (v0 : Nat) (v1 : Int32) (hX : ∀ (t : Int32) σ1, E (t) σ1 → q_G (q_rf fo) d m_Mo_bounds o σ' 52 [some (.ref v0), some (.int v1), some (.int t), none] [] σ1)  : ∀ (n : Nat) (v2 : Int32) (v3 : Int32) (σ : q_H), q_J E (f_Mo_bounds_L9 v0 v1 n v2 v3 σ) (q_G (q_rf fo) d m_Mo_bounds o σ' 9 [some (.ref v0), some (.int v1), some (.int v2), some (.int v3)] [] σ)
  | 0, v2, v3, σ => J_none
  | n + 1, v2, v3, σ => by
    unfold f_Mo_bounds_L9
    refine q_J.step (fun g => j_iload_n rfl rfl (j_bipush (24 : Int32) rfl kb_24 (g))) ?_
    refine J_ite (fun h1 => ?_) (fun h1 => ?_)
    · refine J_bind fun x2 hx2 => ?_
      refine J_bind fun x3 hx3 => ?_
      refine q_J.step (fun g => j_icmp_f rfl (cc_ge_f h1) (j_iload_n rfl rfl (j_aload_n rfl rfl (j_gfr rfl hx2 (j_iload_n rfl rfl (j_bal rfl rfl hx3 (g))))))) ?_
      refine J_ite (fun h4 => ?_) (fun h4 => ?_)
      · exact q_J.step (fun g => j_if_t rfl (cc_eq_t h4) (j_iconst (0 : Int32) rfl k32_0 (j_iadd rfl (j_istore_n [some (.ref v0), some (.int v1), some (.int (v2 + (0 : Int32))), some (.int v3)] rfl rfl (Or.inr rfl) rfl (j_iinc [some (.ref v0), some (.int v1), some (.int (v2 + (0 : Int32))), some (.int (v3 + (1 : Int32)))] (v3 + (1 : Int32)) rfl rfl (by rw [k32_1]) (Or.inr rfl) rfl (j_goto rfl (g))))))) (l_Mo_bounds_L9 hd v0 v1 hX n (v2 + (0 : Int32)) (v3 + (1 : Int32)) σ)
      refine J_bind fun x5 hx5 => ?_
      refine J_bind fun x6 hx6 => ?_
      refine q_J.step (fun g => j_if_f rfl (cc_eq_f h4) (j_aload_n rfl rfl (j_gfr rfl hx5 (j_iload_n rfl rfl (j_bal rfl rfl hx6 (g)))))) ?_
      refine J_ite (fun h7 => ?_) (fun h7 => ?_)
      · refine J_bind fun x8 hx8 => ?_
        refine J_bind fun x9 hx9 => ?_
        exact q_J.step (fun g => j_if_f rfl (cc_ne_f h7) (j_aload_n rfl rfl (j_gfr rfl hx8 (j_iload_n rfl rfl (j_ial rfl hx9 (j_goto rfl (j_iadd rfl (j_istore_n [some (.ref v0), some (.int v1), some (.int (v2 + x9)), some (.int v3)] rfl rfl (Or.inr rfl) rfl (j_iinc [some (.ref v0), some (.int v1), some (.int (v2 + x9)), some (.int (v3 + (1 : Int32)))] (v3 + (1 : Int32)) rfl rfl (by rw [k32_1]) (Or.inr rfl) rfl (j_goto rfl (g))))))))))) (l_Mo_bounds_L9 hd v0 v1 hX n (v2 + x9) (v3 + (1 : Int32)) σ)
      exact q_J.step (fun g => j_if_t rfl (cc_ne_t h7) (j_iconst (0 : Int32) rfl k32_0 (j_iadd rfl (j_istore_n [some (.ref v0), some (.int v1), some (.int (v2 + (0 : Int32))), some (.int v3)] rfl rfl (Or.inr rfl) rfl (j_iinc [some (.ref v0), some (.int v1), some (.int (v2 + (0 : Int32))), some (.int (v3 + (1 : Int32)))] (v3 + (1 : Int32)) rfl rfl (by rw [k32_1]) (Or.inr rfl) rfl (j_goto rfl (g))))))) (l_Mo_bounds_L9 hd v0 v1 hX n (v2 + (0 : Int32)) (v3 + (1 : Int32)) σ)
    exact J_some (fun h => j_icmp_t rfl (cc_ge_t h1) (j_weak (l := [some (.ref v0), some (.int v1), some (.int v2), none]) (And.intro (Or.inr rfl) (And.intro (Or.inr rfl) (And.intro (Or.inr rfl) (And.intro (Or.inl rfl) True.intro)))) (hX _ _ h)))

set_option maxRecDepth 100000 in
theorem b_Mo_bounds {fo : Option Nat} {d : Nat} (hd : 7 ≤ d + 1) {o : q_O} {σ' : q_H} (v0 : Nat) (v1 : Int32) (σ : q_H) : q_J (fun (r : Int32) (σ1 : q_H) => o = .inl (some (.int r)) ∧ σ' = σ1) (f_Mo_bounds v0 v1 σ) (q_G (q_rf fo) d m_Mo_bounds o σ' 0 [some (.ref v0), some (.int v1), none, none] [] σ) := by
  unfold f_Mo_bounds
  refine J_bind fun σ1 hσ1 => ?_
  refine J_sq (fun (t2 : Int32) (σ3 : q_H) => q_G (q_rf fo) d m_Mo_bounds o σ' 52 [some (.ref v0), some (.int v1), some (.int t2), none] [] σ3) (q_J.step (fun g => j_aload_n rfl rfl (j_iconst (0 : Int32) rfl k32_0 (j_putf rfl rfl rfl rfl hσ1 (j_iconst (0 : Int32) rfl k32_0 (j_istore_n [some (.ref v0), some (.int v1), some (.int (0 : Int32)), none] rfl rfl (Or.inr rfl) rfl (j_iconst (0 : Int32) rfl k32_0 (j_istore_n [some (.ref v0), some (.int v1), some (.int (0 : Int32)), some (.int (0 : Int32))] rfl rfl (Or.inr rfl) rfl (g)))))))) (l_Mo_bounds_L9 hd v0 v1 (fun _ _ h => h) q_FU (0 : Int32) (0 : Int32) σ1)) (fun t2 σ3 => ?_)
  refine J_bind fun w4 hw4 => ?_
  refine J_cl fun x6 σ5 hσ5 => ?_
  refine J_cl fun x8 σ7 hσ7 => ?_
  refine q_J.step (fun g => j_aload_n rfl rfl (j_iconst (0 : Int32) rfl k32_0 (j_iconst (0 : Int32) rfl k32_0 (j_iconst (-1 : Int32) rfl k32_m1 (j_bipush (31 : Int32) rfl kb_31 (j_iconst (2 : Int32) rfl k32_2 (j_v1 [.ref v0, .int (0 : Int32), .int (0 : Int32), .int (-1 : Int32), .int (31 : Int32), .int (2 : Int32)] [] rfl rfl rfl rfl rfl rfl hw4 (Or.inl rfl) (t_Mo_countOf (by omega) hσ5) (j_iload_n rfl rfl (j_iadd rfl (j_istore_n [some (.ref v0), some (.int v1), some (.int t2), some (.int (x6 + t2))] rfl rfl (Or.inr rfl) rfl (j_iload_n rfl rfl (j_iconst (0 : Int32) rfl k32_0 (j_iconst (3 : Int32) rfl k32_3 (j_s1 [.int v1, .int (0 : Int32), .int (3 : Int32)] [] rfl rfl rfl rfl rfl (t_Mo_within (by omega) hσ7) (g))))))))))))))) ?_
  refine J_ite (fun h9 => ?_) (fun h9 => ?_)
  · exact J_some (fun h => j_if_t rfl (cc_eq_t h9) (j_iconst (-1 : Int32) rfl k32_m1 (j_iret rfl rfl h)))
  refine q_J.step (fun g => j_if_f rfl (cc_eq_f h9) (j_iload_n rfl rfl (g))) ?_
  refine J_ite (fun h10 => ?_) (fun h10 => ?_)
  · exact J_some (fun h => j_if_f rfl (cc_ne_f h10) (j_iconst (-1 : Int32) rfl k32_m1 (j_iret rfl rfl h)))
  refine J_bind fun w11 hw11 => ?_
  refine J_cl fun x13 σ12 hσ12 => ?_
  refine q_J.step (fun g => j_if_t rfl (cc_ne_t h10) (j_aload_n rfl rfl (j_iconst (0 : Int32) rfl k32_0 (j_iconst (0 : Int32) rfl k32_0 (j_iconst (-1 : Int32) rfl k32_m1 (j_iconst (1 : Int32) rfl k32_1 (j_iconst (2 : Int32) rfl k32_2 (j_v1 [.ref v0, .int (0 : Int32), .int (0 : Int32), .int (-1 : Int32), .int (1 : Int32), .int (2 : Int32)] [] rfl rfl rfl rfl rfl rfl hw11 (Or.inl rfl) (t_Mo_countOf (by omega) hσ12) (j_iload_n rfl rfl (j_iconst (1 : Int32) rfl k32_1 (g))))))))))) ?_
  refine J_sq (fun (t15 : Int32) (σ16 : q_H) => q_G (q_rf fo) d m_Mo_bounds o σ' 99 [none, some (.int v1), none, some (.int (x6 + t2))] [.int t15, .int x13] σ16) ?_ (fun t15 σ16 => ?_)
  · refine J_ite (fun h14 => ?_) (fun h14 => ?_)
    · exact J_some (fun h => j_icmp_f rfl (cc_le_f h14) (j_iload_n rfl rfl (j_goto rfl (j_weak (l := [none, some (.int v1), none, some (.int (x6 + t2))]) (And.intro (Or.inl rfl) (And.intro (Or.inr rfl) (And.intro (Or.inl rfl) (And.intro (Or.inr rfl) True.intro)))) (h)))))
    exact J_some (fun h => j_icmp_t rfl (cc_le_t h14) (j_iconst (0 : Int32) rfl k32_0 (j_weak (l := [none, some (.int v1), none, some (.int (x6 + t2))]) (And.intro (Or.inl rfl) (And.intro (Or.inr rfl) (And.intro (Or.inl rfl) (And.intro (Or.inr rfl) True.intro)))) (h))))
  refine J_cl fun x18 σ17 hσ17 => ?_
  exact J_some (fun h => j_iadd rfl (j_i2l rfl (j_iload_n rfl rfl (j_i2l rfl (j_iload_n rfl rfl (j_iconst (2 : Int32) rfl k32_2 (j_irem rfl (by decide) (j_s1 [.long ((x13 + t15).toInt64), .long ((x6 + t2).toInt64), .int (v1 - v1 / (2 : Int32) * (2 : Int32))] [] rfl rfl rfl rfl rfl (t_Mo_lowest (by omega) hσ17) (j_l2i rfl (j_iret rfl rfl h))))))))))
theorem t_Mo_bounds {fo : Option Nat} {d : Nat} (hd : 7 ≤ d) {v0 : Nat} {v1 : Int32} {σ σ1 : q_H} {r : Int32} (h : f_Mo_bounds v0 v1 σ = some (r, σ1)) : q_Rel (q_rf fo) q_Ms d 216 [.ref v0, .int v1] σ (.inl (some (.int r))) σ1 := by
  obtain ⟨d, rfl⟩ : ∃ d1, d = d1 + 1 := ⟨d - 1, by omega⟩
  exact q_Rel.of rfl rfl (b_Mo_bounds hd _ _ σ _ _ h ⟨rfl, rfl⟩)

set_option maxRecDepth 100000 in
theorem l_Mo_next_L11 {fo : Option Nat} {d : Nat} (hd : 7 ≤ d + 1) {o : q_O} {σ' : q_H} {E : (Int32) → q_H → Prop} (v0 : Nat) (hX : ∀ (t : Int32) σ1, E (t) σ1 → q_G (q_rf fo) d m_Mo_next o σ' 109 [none, some (.int t), none, none, none] [] σ1)  : ∀ (n : Nat) (v1 : Int32) (v2 : Int32) (v3 : Int32) (σ : q_H), q_J E (f_Mo_next_L11 v0 n v1 v2 v3 σ) (q_G (q_rf fo) d m_Mo_next o σ' 11 [some (.ref v0), some (.int v1), some (.int v2), some (.int v3), none] [] σ)
  | 0, v1, v2, v3, σ => J_none
  | n + 1, v1, v2, v3, σ => by
    unfold f_Mo_next_L11
    refine q_J.step (fun g => j_iload_n rfl rfl (j_bipush (24 : Int32) rfl kb_24 (g))) ?_
    refine J_ite (fun h1 => ?_) (fun h1 => ?_)
    · refine J_bind fun x2 hx2 => ?_
      refine J_bind fun x3 hx3 => ?_
      refine q_J.step (fun g => j_icmp_f rfl (cc_ge_f h1) (j_aload_n rfl rfl (j_gfr rfl hx2 (j_iload_n rfl rfl (j_bal rfl rfl hx3 (g)))))) ?_
      refine J_ite (fun h4 => ?_) (fun h4 => ?_)
      · exact q_J.step (fun g => j_if_t rfl (cc_eq_t h4) (j_iinc [some (.ref v0), some (.int v1), some (.int v2), some (.int (v3 + (1 : Int32))), none] (v3 + (1 : Int32)) rfl rfl (by rw [k32_1]) (Or.inr rfl) rfl (j_goto rfl (g)))) (l_Mo_next_L11 hd v0 hX n v1 v2 (v3 + (1 : Int32)) σ)
      refine J_bind fun x5 hx5 => ?_
      refine J_bind fun x6 hx6 => ?_
      refine q_J.step (fun g => j_if_f rfl (cc_eq_f h4) (j_aload_n rfl rfl (j_gfr rfl hx5 (j_iload_n rfl rfl (j_bal rfl rfl hx6 (g)))))) ?_
      refine J_ite (fun h7 => ?_) (fun h7 => ?_)
      · refine J_bind fun x8 hx8 => ?_
        refine J_bind fun x9 hx9 => ?_
        refine J_bind fun w10 hw10 => ?_
        refine J_cl fun x12 σ11 hσ11 => ?_
        refine q_J.step (fun g => j_if_t rfl (cc_eq_t h7) (j_aload_n rfl rfl (j_iconst (1 : Int32) rfl k32_1 (j_aload_n rfl rfl (j_gfr rfl hx8 (j_iload_n rfl rfl (j_ial rfl hx9 (j_iconst (-1 : Int32) rfl k32_m1 (j_bipush (31 : Int32) rfl kb_31 (j_iconst (2 : Int32) rfl k32_2 (j_v1 [.ref v0, .int (1 : Int32), .int x9, .int (-1 : Int32), .int (31 : Int32), .int (2 : Int32)] [] rfl rfl rfl rfl rfl rfl hw10 (Or.inl rfl) (t_Mo_countOf (by omega) hσ11) (j_istore [some (.ref v0), some (.int v1), some (.int v2), some (.int v3), some (.int x12)] rfl rfl (Or.inr rfl) rfl (j_iload_n rfl rfl (g)))))))))))))) ?_
        refine J_ite (fun h13 => ?_) (fun h13 => ?_)
        · exact q_J.step (fun g => j_if_t rfl (cc_lt_t h13) (j_iload_n rfl rfl (j_istore_n [some (.ref v0), some (.int v3), some (.int v2), some (.int v3), some (.int x12)] rfl rfl (Or.inr rfl) rfl (j_iload rfl rfl (j_istore_n [some (.ref v0), some (.int v3), some (.int x12), some (.int v3), some (.int x12)] rfl rfl (Or.inr rfl) rfl (j_iinc [some (.ref v0), some (.int v3), some (.int x12), some (.int (v3 + (1 : Int32))), some (.int x12)] (v3 + (1 : Int32)) rfl rfl (by rw [k32_1]) (Or.inr rfl) rfl (j_goto rfl (j_weak (l := [some (.ref v0), some (.int v3), some (.int x12), some (.int (v3 + (1 : Int32))), none]) (And.intro (Or.inr rfl) (And.intro (Or.inr rfl) (And.intro (Or.inr rfl) (And.intro (Or.inr rfl) (And.intro (Or.inl rfl) True.intro))))) (g))))))))) (l_Mo_next_L11 hd v0 hX n v3 x12 (v3 + (1 : Int32)) σ11)
        refine J_bind fun x14 hx14 => ?_
        refine J_bind fun x15 hx15 => ?_
        refine J_bind fun x16 hx16 => ?_
        refine J_bind fun x17 hx17 => ?_
        refine q_J.step (fun g => j_if_f rfl (cc_lt_f h13) (j_aload_n rfl rfl (j_gfr rfl hx14 (j_iload_n rfl rfl (j_ial rfl hx15 (j_aload_n rfl rfl (j_gfr rfl hx16 (j_iload_n rfl rfl (j_ial rfl hx17 (g)))))))))) ?_
        refine J_ite (fun h18 => ?_) (fun h18 => ?_)
        · exact q_J.step (fun g => j_icmp_t rfl (cc_lt_t h18) (j_iinc [some (.ref v0), some (.int v1), some (.int v2), some (.int (v3 + (1 : Int32))), some (.int x12)] (v3 + (1 : Int32)) rfl rfl (by rw [k32_1]) (Or.inr rfl) rfl (j_goto rfl (j_weak (l := [some (.ref v0), some (.int v1), some (.int v2), some (.int (v3 + (1 : Int32))), none]) (And.intro (Or.inr rfl) (And.intro (Or.inr rfl) (And.intro (Or.inr rfl) (And.intro (Or.inr rfl) (And.intro (Or.inl rfl) True.intro))))) (g))))) (l_Mo_next_L11 hd v0 hX n v1 v2 (v3 + (1 : Int32)) σ11)
        refine J_bind fun x19 hx19 => ?_
        refine J_bind fun x20 hx20 => ?_
        refine J_bind fun x21 hx21 => ?_
        refine J_bind fun x22 hx22 => ?_
        refine q_J.step (fun g => j_icmp_f rfl (cc_lt_f h18) (j_aload_n rfl rfl (j_gfr rfl hx19 (j_iload_n rfl rfl (j_ial rfl hx20 (j_aload_n rfl rfl (j_gfr rfl hx21 (j_iload_n rfl rfl (j_ial rfl hx22 (g)))))))))) ?_
        refine J_ite (fun h23 => ?_) (fun h23 => ?_)
        · refine q_J.step (fun g => j_icmp_f rfl (cc_ne_f h23) (j_iload rfl rfl (j_iload_n rfl rfl (g)))) ?_
          refine J_ite (fun h24 => ?_) (fun h24 => ?_)
          · exact q_J.step (fun g => j_icmp_t rfl (cc_lt_t h24) (j_iload_n rfl rfl (j_istore_n [some (.ref v0), some (.int v3), some (.int v2), some (.int v3), some (.int x12)] rfl rfl (Or.inr rfl) rfl (j_iload rfl rfl (j_istore_n [some (.ref v0), some (.int v3), some (.int x12), some (.int v3), some (.int x12)] rfl rfl (Or.inr rfl) rfl (j_iinc [some (.ref v0), some (.int v3), some (.int x12), some (.int (v3 + (1 : Int32))), some (.int x12)] (v3 + (1 : Int32)) rfl rfl (by rw [k32_1]) (Or.inr rfl) rfl (j_goto rfl (j_weak (l := [some (.ref v0), some (.int v3), some (.int x12), some (.int (v3 + (1 : Int32))), none]) (And.intro (Or.inr rfl) (And.intro (Or.inr rfl) (And.intro (Or.inr rfl) (And.intro (Or.inr rfl) (And.intro (Or.inl rfl) True.intro))))) (g))))))))) (l_Mo_next_L11 hd v0 hX n v3 x12 (v3 + (1 : Int32)) σ11)
          exact q_J.step (fun g => j_icmp_f rfl (cc_lt_f h24) (j_goto rfl (j_iinc [some (.ref v0), some (.int v1), some (.int v2), some (.int (v3 + (1 : Int32))), some (.int x12)] (v3 + (1 : Int32)) rfl rfl (by rw [k32_1]) (Or.inr rfl) rfl (j_goto rfl (j_weak (l := [some (.ref v0), some (.int v1), some (.int v2), some (.int (v3 + (1 : Int32))), none]) (And.intro (Or.inr rfl) (And.intro (Or.inr rfl) (And.intro (Or.inr rfl) (And.intro (Or.inr rfl) (And.intro (Or.inl rfl) True.intro))))) (g)))))) (l_Mo_next_L11 hd v0 hX n v1 v2 (v3 + (1 : Int32)) σ11)
        exact q_J.step (fun g => j_icmp_t rfl (cc_ne_t h23) (j_iload_n rfl rfl (j_istore_n [some (.ref v0), some (.int v3), some (.int v2), some (.int v3), some (.int x12)] rfl rfl (Or.inr rfl) rfl (j_iload rfl rfl (j_istore_n [some (.ref v0), some (.int v3), some (.int x12), some (.int v3), some (.int x12)] rfl rfl (Or.inr rfl) rfl (j_iinc [some (.ref v0), some (.int v3), some (.int x12), some (.int (v3 + (1 : Int32))), some (.int x12)] (v3 + (1 : Int32)) rfl rfl (by rw [k32_1]) (Or.inr rfl) rfl (j_goto rfl (j_weak (l := [some (.ref v0), some (.int v3), some (.int x12), some (.int (v3 + (1 : Int32))), none]) (And.intro (Or.inr rfl) (And.intro (Or.inr rfl) (And.intro (Or.inr rfl) (And.intro (Or.inr rfl) (And.intro (Or.inl rfl) True.intro))))) (g))))))))) (l_Mo_next_L11 hd v0 hX n v3 x12 (v3 + (1 : Int32)) σ11)
      exact q_J.step (fun g => j_if_f rfl (cc_eq_f h7) (j_goto rfl (j_iinc [some (.ref v0), some (.int v1), some (.int v2), some (.int (v3 + (1 : Int32))), none] (v3 + (1 : Int32)) rfl rfl (by rw [k32_1]) (Or.inr rfl) rfl (j_goto rfl (g))))) (l_Mo_next_L11 hd v0 hX n v1 v2 (v3 + (1 : Int32)) σ)
    exact J_some (fun h => j_icmp_t rfl (cc_ge_t h1) (j_weak (l := [none, some (.int v1), none, none, none]) (And.intro (Or.inl rfl) (And.intro (Or.inr rfl) (And.intro (Or.inl rfl) (And.intro (Or.inl rfl) (And.intro (Or.inr rfl) True.intro))))) (hX _ _ h)))

set_option maxRecDepth 100000 in
theorem b_Mo_next {fo : Option Nat} {d : Nat} (hd : 7 ≤ d + 1) {o : q_O} {σ' : q_H} (v0 : Nat) (σ : q_H) : q_J (fun (r : Int32) (σ1 : q_H) => o = .inl (some (.int r)) ∧ σ' = σ1) (f_Mo_next v0 σ) (q_G (q_rf fo) d m_Mo_next o σ' 0 [some (.ref v0), none, none, none, none] [] σ) := by
  unfold f_Mo_next
  refine J_bind fun σ1 hσ1 => ?_
  refine J_sq (fun (t2 : Int32) (σ3 : q_H) => q_G (q_rf fo) d m_Mo_next o σ' 109 [none, some (.int t2), none, none, none] [] σ3) (q_J.step (fun g => j_aload_n rfl rfl (j_iconst (0 : Int32) rfl k32_0 (j_putf rfl rfl rfl rfl hσ1 (j_iconst (-1 : Int32) rfl k32_m1 (j_istore_n [some (.ref v0), some (.int (-1 : Int32)), none, none, none] rfl rfl (Or.inr rfl) rfl (j_iconst (0 : Int32) rfl k32_0 (j_istore_n [some (.ref v0), some (.int (-1 : Int32)), some (.int (0 : Int32)), none, none] rfl rfl (Or.inr rfl) rfl (j_iconst (0 : Int32) rfl k32_0 (j_istore_n [some (.ref v0), some (.int (-1 : Int32)), some (.int (0 : Int32)), some (.int (0 : Int32)), none] rfl rfl (Or.inr rfl) rfl (g)))))))))) (l_Mo_next_L11 hd v0 (fun _ _ h => h) q_FU (-1 : Int32) (0 : Int32) (0 : Int32) σ1)) (fun t2 σ3 => ?_)
  exact J_some (fun h => j_iload_n rfl rfl (j_iret rfl rfl h))
theorem t_Mo_next {fo : Option Nat} {d : Nat} (hd : 7 ≤ d) {v0 : Nat} {σ σ1 : q_H} {r : Int32} (h : f_Mo_next v0 σ = some (r, σ1)) : q_Rel (q_rf fo) q_Ms d 217 [.ref v0] σ (.inl (some (.int r))) σ1 := by
  obtain ⟨d, rfl⟩ : ∃ d1, d = d1 + 1 := ⟨d - 1, by omega⟩
  exact q_Rel.of rfl rfl (b_Mo_next hd _ σ _ _ h ⟨rfl, rfl⟩)

set_option maxRecDepth 100000 in
theorem l_Mo_leftIn_L66 {fo : Option Nat} {d : Nat} (hd : 7 ≤ d + 1) {o : q_O} {σ' : q_H} {E : (Int32) → q_H → Prop} (v0 : Nat) (v1 : Int32) (v2 : Int32) (v3 : Int32) (v5 : Int32) (hX : ∀ (t : Int32) σ1, E (t) σ1 → q_G (q_rf fo) d m_Mo_leftIn o σ' 124 [some (.ref v0), some (.int v1), some (.int v2), some (.int v3), some (.int t), some (.int v5), none] [] σ1)  : ∀ (n : Nat) (v4 : Int32) (v6 : Int32) (σ : q_H), q_J E (f_Mo_leftIn_L66 v0 v1 v2 v3 v5 n v4 v6 σ) (q_G (q_rf fo) d m_Mo_leftIn o σ' 66 [some (.ref v0), some (.int v1), some (.int v2), some (.int v3), some (.int v4), some (.int v5), some (.int v6)] [] σ)
  | 0, v4, v6, σ => J_none
  | n + 1, v4, v6, σ => by
    unfold f_Mo_leftIn_L66
    refine J_bind fun x1 hx1 => ?_
    refine J_bind fun x2 hx2 => ?_
    refine q_J.step (fun g => j_iload rfl rfl (j_aload_n rfl rfl (j_gfr rfl hx1 (j_iload rfl rfl (j_ial rfl hx2 (g)))))) ?_
    refine J_ite (fun h3 => ?_) (fun h3 => ?_)
    · refine J_bind fun x4 hx4 => ?_
      refine J_bind fun x5 hx5 => ?_
      refine q_J.step (fun g => j_icmp_f rfl (cc_ge_f h3) (j_iload rfl rfl (j_aload_n rfl rfl (j_gfr rfl hx4 (j_bipush (12 : Int32) rfl kb_12 (j_iload rfl rfl (j_imul rfl (j_iload rfl rfl (j_iadd rfl (j_ial rfl hx5 (j_iload_n rfl rfl (g)))))))))))) ?_
      refine J_ite (fun h6 => ?_) (fun h6 => ?_)
      · refine J_bind fun w7 hw7 => ?_
        refine J_cl fun x9 σ8 hσ8 => ?_
        refine q_J.step (fun g => j_icmp_f rfl (cc_ne_f h6) (j_aload_n rfl rfl (j_iload_n rfl rfl (j_iload rfl rfl (j_iload rfl rfl (j_v1 [.ref v0, .int v1, .int v5, .int v6] [.int v4] rfl rfl rfl rfl rfl rfl hw7 (Or.inl rfl) (t_Mo_leftOf (by omega) hσ8) (j_iload_n rfl rfl (g)))))))) ?_
        refine J_ite (fun h10 => ?_) (fun h10 => ?_)
        · exact q_J.step (fun g => j_icmp_f rfl (cc_ne_f h10) (j_iconst (1 : Int32) rfl k32_1 (j_goto rfl (j_iadd rfl (j_istore [some (.ref v0), some (.int v1), some (.int v2), some (.int v3), some (.int (v4 + (1 : Int32))), some (.int v5), some (.int v6)] rfl rfl (Or.inr rfl) rfl (j_iinc [some (.ref v0), some (.int v1), some (.int v2), some (.int v3), some (.int (v4 + (1 : Int32))), some (.int v5), some (.int (v6 + (1 : Int32)))] (v6 + (1 : Int32)) rfl rfl (by rw [k32_1]) (Or.inr rfl) rfl (j_goto rfl (g)))))))) (l_Mo_leftIn_L66 hd v0 v1 v2 v3 v5 hX n (v4 + (1 : Int32)) (v6 + (1 : Int32)) σ8)
        exact q_J.step (fun g => j_icmp_t rfl (cc_ne_t h10) (j_iconst (0 : Int32) rfl k32_0 (j_iadd rfl (j_istore [some (.ref v0), some (.int v1), some (.int v2), some (.int v3), some (.int (v4 + (0 : Int32))), some (.int v5), some (.int v6)] rfl rfl (Or.inr rfl) rfl (j_iinc [some (.ref v0), some (.int v1), some (.int v2), some (.int v3), some (.int (v4 + (0 : Int32))), some (.int v5), some (.int (v6 + (1 : Int32)))] (v6 + (1 : Int32)) rfl rfl (by rw [k32_1]) (Or.inr rfl) rfl (j_goto rfl (g))))))) (l_Mo_leftIn_L66 hd v0 v1 v2 v3 v5 hX n (v4 + (0 : Int32)) (v6 + (1 : Int32)) σ8)
      exact q_J.step (fun g => j_icmp_t rfl (cc_ne_t h6) (j_iconst (0 : Int32) rfl k32_0 (j_iadd rfl (j_istore [some (.ref v0), some (.int v1), some (.int v2), some (.int v3), some (.int (v4 + (0 : Int32))), some (.int v5), some (.int v6)] rfl rfl (Or.inr rfl) rfl (j_iinc [some (.ref v0), some (.int v1), some (.int v2), some (.int v3), some (.int (v4 + (0 : Int32))), some (.int v5), some (.int (v6 + (1 : Int32)))] (v6 + (1 : Int32)) rfl rfl (by rw [k32_1]) (Or.inr rfl) rfl (j_goto rfl (g))))))) (l_Mo_leftIn_L66 hd v0 v1 v2 v3 v5 hX n (v4 + (0 : Int32)) (v6 + (1 : Int32)) σ)
    exact J_some (fun h => j_icmp_t rfl (cc_ge_t h3) (j_weak (l := [some (.ref v0), some (.int v1), some (.int v2), some (.int v3), some (.int v4), some (.int v5), none]) (And.intro (Or.inr rfl) (And.intro (Or.inr rfl) (And.intro (Or.inr rfl) (And.intro (Or.inr rfl) (And.intro (Or.inr rfl) (And.intro (Or.inr rfl) (And.intro (Or.inl rfl) True.intro))))))) (hX _ _ h)))

set_option maxRecDepth 100000 in
theorem l_Mo_leftIn_L6 {fo : Option Nat} {d : Nat} (hd : 7 ≤ d + 1) {o : q_O} {σ' : q_H} {E : (Int32) → q_H → Prop} (v0 : Nat) (v1 : Int32) (v2 : Int32) (v3 : Int32) (hX : ∀ (t : Int32) σ1, E (t) σ1 → q_G (q_rf fo) d m_Mo_leftIn o σ' 130 [none, none, none, none, some (.int t), none, none] [] σ1)  : ∀ (n : Nat) (v4 : Int32) (v5 : Int32) (σ : q_H), q_J E (f_Mo_leftIn_L6 v0 v1 v2 v3 n v4 v5 σ) (q_G (q_rf fo) d m_Mo_leftIn o σ' 6 [some (.ref v0), some (.int v1), some (.int v2), some (.int v3), some (.int v4), some (.int v5), none] [] σ)
  | 0, v4, v5, σ => J_none
  | n + 1, v4, v5, σ => by
    unfold f_Mo_leftIn_L6
    refine q_J.step (fun g => j_iload rfl rfl (j_bipush (24 : Int32) rfl kb_24 (g))) ?_
    refine J_ite (fun h1 => ?_) (fun h1 => ?_)
    · refine q_J.step (fun g => j_icmp_f rfl (cc_ge_f h1) (j_iload rfl rfl (j_iload_n rfl rfl (g)))) ?_
      refine J_ite (fun h2 => ?_) (fun h2 => ?_)
      · exact q_J.step (fun g => j_icmp_t rfl (cc_eq_t h2) (j_iinc [some (.ref v0), some (.int v1), some (.int v2), some (.int v3), some (.int v4), some (.int (v5 + (1 : Int32))), none] (v5 + (1 : Int32)) rfl rfl (by rw [k32_1]) (Or.inr rfl) rfl (j_goto rfl (g)))) (l_Mo_leftIn_L6 hd v0 v1 v2 v3 hX n v4 (v5 + (1 : Int32)) σ)
      refine J_bind fun w3 hw3 => ?_
      refine J_cl fun x5 σ4 hσ4 => ?_
      refine q_J.step (fun g => j_icmp_f rfl (cc_eq_f h2) (j_aload_n rfl rfl (j_iload rfl rfl (j_v1 [.ref v0, .int v5] [] rfl rfl rfl rfl rfl rfl hw3 (Or.inl rfl) (t_Mo_isThere (by omega) hσ4) (g))))) ?_
      refine J_ite (fun h6 => ?_) (fun h6 => ?_)
      · exact q_J.step (fun g => j_if_t rfl (cc_eq_t h6) (j_iinc [some (.ref v0), some (.int v1), some (.int v2), some (.int v3), some (.int v4), some (.int (v5 + (1 : Int32))), none] (v5 + (1 : Int32)) rfl rfl (by rw [k32_1]) (Or.inr rfl) rfl (j_goto rfl (g)))) (l_Mo_leftIn_L6 hd v0 v1 v2 v3 hX n v4 (v5 + (1 : Int32)) σ4)
      refine J_bind fun x7 hx7 => ?_
      refine J_bind fun x8 hx8 => ?_
      refine J_bind fun x9 hx9 => ?_
      refine J_bind fun x10 hx10 => ?_
      refine q_J.step (fun g => j_if_f rfl (cc_eq_f h6) (j_aload_n rfl rfl (j_gfr rfl hx7 (j_iload rfl rfl (j_ial rfl hx8 (j_aload_n rfl rfl (j_gfr rfl hx9 (j_iload_n rfl rfl (j_ial rfl hx10 (g)))))))))) ?_
      refine J_ite (fun h11 => ?_) (fun h11 => ?_)
      · refine J_bind fun x12 hx12 => ?_
        refine J_bind fun x13 hx13 => ?_
        refine J_bind fun x14 hx14 => ?_
        refine J_bind fun x15 hx15 => ?_
        refine q_J.step (fun g => j_icmp_f rfl (cc_ne_f h11) (j_aload_n rfl rfl (j_gfr rfl hx12 (j_iload rfl rfl (j_ial rfl hx13 (j_aload_n rfl rfl (j_gfr rfl hx14 (j_iload_n rfl rfl (j_ial rfl hx15 (g)))))))))) ?_
        refine J_ite (fun h16 => ?_) (fun h16 => ?_)
        · refine J_sq (fun (t17 : Int32) (σ18 : q_H) => q_G (q_rf fo) d m_Mo_leftIn o σ' 124 [some (.ref v0), some (.int v1), some (.int v2), some (.int v3), some (.int t17), some (.int v5), none] [] σ18) (q_J.step (fun g => j_icmp_t rfl (cc_gt_t h16) (j_iconst (0 : Int32) rfl k32_0 (j_istore [some (.ref v0), some (.int v1), some (.int v2), some (.int v3), some (.int v4), some (.int v5), some (.int (0 : Int32))] rfl rfl (Or.inr rfl) rfl (g)))) (l_Mo_leftIn_L66 hd v0 v1 v2 v3 v5 (fun _ _ h => h) q_FU v4 (0 : Int32) σ4)) (fun t17 σ18 => ?_)
          exact q_J.step (fun g => j_iinc [some (.ref v0), some (.int v1), some (.int v2), some (.int v3), some (.int t17), some (.int (v5 + (1 : Int32))), none] (v5 + (1 : Int32)) rfl rfl (by rw [k32_1]) (Or.inr rfl) rfl (j_goto rfl (g))) (l_Mo_leftIn_L6 hd v0 v1 v2 v3 hX n t17 (v5 + (1 : Int32)) σ18)
        exact q_J.step (fun g => j_icmp_f rfl (cc_gt_f h16) (j_goto rfl (j_iinc [some (.ref v0), some (.int v1), some (.int v2), some (.int v3), some (.int v4), some (.int (v5 + (1 : Int32))), none] (v5 + (1 : Int32)) rfl rfl (by rw [k32_1]) (Or.inr rfl) rfl (j_goto rfl (g))))) (l_Mo_leftIn_L6 hd v0 v1 v2 v3 hX n v4 (v5 + (1 : Int32)) σ4)
      exact q_J.step (fun g => j_icmp_t rfl (cc_ne_t h11) (j_iinc [some (.ref v0), some (.int v1), some (.int v2), some (.int v3), some (.int v4), some (.int (v5 + (1 : Int32))), none] (v5 + (1 : Int32)) rfl rfl (by rw [k32_1]) (Or.inr rfl) rfl (j_goto rfl (g)))) (l_Mo_leftIn_L6 hd v0 v1 v2 v3 hX n v4 (v5 + (1 : Int32)) σ4)
    exact J_some (fun h => j_icmp_t rfl (cc_ge_t h1) (j_weak (l := [none, none, none, none, some (.int v4), none, none]) (And.intro (Or.inl rfl) (And.intro (Or.inl rfl) (And.intro (Or.inl rfl) (And.intro (Or.inl rfl) (And.intro (Or.inr rfl) (And.intro (Or.inl rfl) (And.intro (Or.inr rfl) True.intro))))))) (hX _ _ h)))

set_option maxRecDepth 100000 in
theorem b_Mo_leftIn {fo : Option Nat} {d : Nat} (hd : 7 ≤ d + 1) {o : q_O} {σ' : q_H} (v0 : Nat) (v1 : Int32) (v2 : Int32) (v3 : Int32) (σ : q_H) : q_J (fun (r : Int32) (σ1 : q_H) => o = .inl (some (.int r)) ∧ σ' = σ1) (f_Mo_leftIn v0 v1 v2 v3 σ) (q_G (q_rf fo) d m_Mo_leftIn o σ' 0 [some (.ref v0), some (.int v1), some (.int v2), some (.int v3), none, none, none] [] σ) := by
  unfold f_Mo_leftIn
  refine J_sq (fun (t1 : Int32) (σ2 : q_H) => q_G (q_rf fo) d m_Mo_leftIn o σ' 130 [none, none, none, none, some (.int t1), none, none] [] σ2) (q_J.step (fun g => j_iconst (0 : Int32) rfl k32_0 (j_istore [some (.ref v0), some (.int v1), some (.int v2), some (.int v3), some (.int (0 : Int32)), none, none] rfl rfl (Or.inr rfl) rfl (j_iconst (0 : Int32) rfl k32_0 (j_istore [some (.ref v0), some (.int v1), some (.int v2), some (.int v3), some (.int (0 : Int32)), some (.int (0 : Int32)), none] rfl rfl (Or.inr rfl) rfl (g))))) (l_Mo_leftIn_L6 hd v0 v1 v2 v3 (fun _ _ h => h) q_FU (0 : Int32) (0 : Int32) σ)) (fun t1 σ2 => ?_)
  exact J_some (fun h => j_iload rfl rfl (j_iret rfl rfl h))
theorem t_Mo_leftIn {fo : Option Nat} {d : Nat} (hd : 7 ≤ d) {v0 : Nat} {v1 : Int32} {v2 : Int32} {v3 : Int32} {σ σ1 : q_H} {r : Int32} (h : f_Mo_leftIn v0 v1 v2 v3 σ = some (r, σ1)) : q_Rel (q_rf fo) q_Ms d 230 [.ref v0, .int v1, .int v2, .int v3] σ (.inl (some (.int r))) σ1 := by
  obtain ⟨d, rfl⟩ : ∃ d1, d = d1 + 1 := ⟨d - 1, by omega⟩
  exact q_Rel.of rfl rfl (b_Mo_leftIn hd _ _ _ _ σ _ _ h ⟨rfl, rfl⟩)

set_option maxRecDepth 100000 in
theorem l_Mo_sisters_L56 {fo : Option Nat} {d : Nat} (hd : 7 ≤ d + 1) {o : q_O} {σ' : q_H} {E : (Int64) → q_H → Prop} (v0 : Nat) (v1 : Int32) (v2 : Int32) (v3 : Int32) (v4 : Int64) (v8 : Int32) (hX : ∀ (t : Int64) σ1, E (t) σ1 → q_G (q_rf fo) d m_Mo_sisters o σ' 133 [some (.ref v0), some (.int v1), some (.int v2), some (.int v3), some (.long v4), none, some (.long t), none, some (.int v8), none, none, none] [] σ1)  : ∀ (n : Nat) (v6 : Int64) (v9 : Int32) (σ : q_H), q_J E (f_Mo_sisters_L56 v0 v1 v2 v3 v4 v8 n v6 v9 σ) (q_G (q_rf fo) d m_Mo_sisters o σ' 56 [some (.ref v0), some (.int v1), some (.int v2), some (.int v3), some (.long v4), none, some (.long v6), none, some (.int v8), some (.int v9), none, none] [] σ)
  | 0, v6, v9, σ => J_none
  | n + 1, v6, v9, σ => by
    unfold f_Mo_sisters_L56
    refine J_bind fun w1 hw1 => ?_
    refine J_cl fun x3 σ2 hσ2 => ?_
    refine q_J.step (fun g => j_aload_n rfl rfl (j_iload rfl rfl (j_v1 [.ref v0, .int v8] [] rfl rfl rfl rfl rfl rfl hw1 (Or.inl rfl) (t_Mo_isThere (by omega) hσ2) (g)))) ?_
    refine J_ite (fun h4 => ?_) (fun h4 => ?_)
    · exact J_some (fun h => j_if_t rfl (cc_eq_t h4) (j_weak (l := [some (.ref v0), some (.int v1), some (.int v2), some (.int v3), some (.long v4), none, some (.long v6), none, some (.int v8), none, none, none]) (And.intro (Or.inr rfl) (And.intro (Or.inr rfl) (And.intro (Or.inr rfl) (And.intro (Or.inr rfl) (And.intro (Or.inr rfl) (And.intro (Or.inr rfl) (And.intro (Or.inr rfl) (And.intro (Or.inr rfl) (And.intro (Or.inr rfl) (And.intro (Or.inl rfl) (And.intro (Or.inr rfl) (And.intro (Or.inr rfl) True.intro)))))))))))) (hX _ _ h)))
    refine J_bind fun x5 hx5 => ?_
    refine J_bind fun x6 hx6 => ?_
    refine q_J.step (fun g => j_if_f rfl (cc_eq_f h4) (j_iload rfl rfl (j_aload_n rfl rfl (j_gfr rfl hx5 (j_iload rfl rfl (j_ial rfl hx6 (g))))))) ?_
    refine J_ite (fun h7 => ?_) (fun h7 => ?_)
    · refine J_bind fun w8 hw8 => ?_
      refine J_cl fun x10 σ9 hσ9 => ?_
      refine q_J.step (fun g => j_icmp_f rfl (cc_ge_f h7) (j_aload_n rfl rfl (j_iload rfl rfl (j_iload rfl rfl (j_v1 [.ref v0, .int v8, .int v9] [] rfl rfl rfl rfl rfl rfl hw8 (Or.inl rfl) (t_Mo_isWife (by omega) hσ9) (g)))))) ?_
      refine J_ite (fun h11 => ?_) (fun h11 => ?_)
      · exact q_J.step (fun g => j_if_f rfl (cc_ne_f h11) (j_goto rfl (j_iinc [some (.ref v0), some (.int v1), some (.int v2), some (.int v3), some (.long v4), none, some (.long v6), none, some (.int v8), some (.int (v9 + (1 : Int32))), none, none] (v9 + (1 : Int32)) rfl rfl (by rw [k32_1]) (Or.inr rfl) rfl (j_goto rfl (g))))) (l_Mo_sisters_L56 hd v0 v1 v2 v3 v4 v8 hX n v6 (v9 + (1 : Int32)) σ9)
      refine J_bind fun x12 hx12 => ?_
      refine J_bind fun w13 hw13 => ?_
      refine J_cl fun x15 σ14 hσ14 => ?_
      refine J_bind fun x16 hx16 => ?_
      refine J_bind fun w17 hw17 => ?_
      refine J_cl fun x19 σ18 hσ18 => ?_
      refine J_bind fun x20 hx20 => ?_
      refine q_J.step (fun g => j_if_t rfl (cc_ne_t h11) (j_aload_n rfl rfl (j_iload_n rfl rfl (j_aload_n rfl rfl (j_gfr rfl hx12 (j_aload_n rfl rfl (j_iload rfl rfl (j_iload rfl rfl (j_v1 [.ref v0, .int v8, .int v9] [.ref x12, .int v1, .ref v0] rfl rfl rfl rfl rfl rfl hw13 (Or.inl rfl) (t_Mo_husband (by omega) hσ14) (j_ial rfl hx16 (j_iload_n rfl rfl (j_v1 [.ref v0, .int v1, .int x16, .int v2] [] rfl rfl rfl rfl rfl rfl hw17 (Or.inl rfl) (t_Mo_couldOf (by omega) hσ18) (j_lstore [some (.ref v0), some (.int v1), some (.int v2), some (.int v3), some (.long v4), none, some (.long v6), none, some (.int v8), some (.int v9), some (.long x19), none] rfl rfl (Or.inr rfl) rfl (j_lload rfl rfl (g))))))))))))))) ?_
      refine q_J.step (fun g => j_lload rfl rfl (j_lload rfl rfl (j_aload_n rfl rfl (j_gfl rfl hx20 (g))))) ?_
      refine J_ite (fun _ => J_none) (fun h21 => ?_)
      exact q_J.step (fun g => j_ldiv rfl h21 (j_lmul rfl (j_ladd rfl (j_lstore [some (.ref v0), some (.int v1), some (.int v2), some (.int v3), some (.long v4), none, some (.long (v6 + (x19 * (v4 / x20)))), none, some (.int v8), some (.int v9), some (.long x19), none] rfl rfl (Or.inr True.intro) rfl (j_iinc [some (.ref v0), some (.int v1), some (.int v2), some (.int v3), some (.long v4), none, some (.long (v6 + (x19 * (v4 / x20)))), none, some (.int v8), some (.int (v9 + (1 : Int32))), some (.long x19), none] (v9 + (1 : Int32)) rfl rfl (by rw [k32_1]) (Or.inr rfl) rfl (j_goto rfl (j_weak (l := [some (.ref v0), some (.int v1), some (.int v2), some (.int v3), some (.long v4), none, some (.long (v6 + (x19 * (v4 / x20)))), none, some (.int v8), some (.int (v9 + (1 : Int32))), none, none]) (And.intro (Or.inr rfl) (And.intro (Or.inr rfl) (And.intro (Or.inr rfl) (And.intro (Or.inr rfl) (And.intro (Or.inr rfl) (And.intro (Or.inr rfl) (And.intro (Or.inr rfl) (And.intro (Or.inr rfl) (And.intro (Or.inr rfl) (And.intro (Or.inr rfl) (And.intro (Or.inl rfl) (And.intro (Or.inr rfl) True.intro)))))))))))) (g)))))))) (l_Mo_sisters_L56 hd v0 v1 v2 v3 v4 v8 hX n (v6 + (x19 * (v4 / x20))) (v9 + (1 : Int32)) σ18)
    exact J_some (fun h => j_icmp_t rfl (cc_ge_t h7) (j_weak (l := [some (.ref v0), some (.int v1), some (.int v2), some (.int v3), some (.long v4), none, some (.long v6), none, some (.int v8), none, none, none]) (And.intro (Or.inr rfl) (And.intro (Or.inr rfl) (And.intro (Or.inr rfl) (And.intro (Or.inr rfl) (And.intro (Or.inr rfl) (And.intro (Or.inr rfl) (And.intro (Or.inr rfl) (And.intro (Or.inr rfl) (And.intro (Or.inr rfl) (And.intro (Or.inl rfl) (And.intro (Or.inr rfl) (And.intro (Or.inr rfl) True.intro)))))))))))) (hX _ _ h)))

set_option maxRecDepth 100000 in
theorem l_Mo_sisters_L46 {fo : Option Nat} {d : Nat} (hd : 7 ≤ d + 1) {o : q_O} {σ' : q_H} {E : (Int64) → q_H → Prop} (v0 : Nat) (v1 : Int32) (v2 : Int32) (v3 : Int32) (v4 : Int64) (hX : ∀ (t : Int64) σ1, E (t) σ1 → q_G (q_rf fo) d m_Mo_sisters o σ' 139 [some (.ref v0), none, none, some (.int v3), some (.long v4), none, some (.long t), none, none, none, none, none] [] σ1)  : ∀ (n : Nat) (v6 : Int64) (v8 : Int32) (σ : q_H), q_J E (f_Mo_sisters_L46 v0 v1 v2 v3 v4 n v6 v8 σ) (q_G (q_rf fo) d m_Mo_sisters o σ' 46 [some (.ref v0), some (.int v1), some (.int v2), some (.int v3), some (.long v4), none, some (.long v6), none, some (.int v8), none, none, none] [] σ)
  | 0, v6, v8, σ => J_none
  | n + 1, v6, v8, σ => by
    unfold f_Mo_sisters_L46
    refine q_J.step (fun g => j_iload rfl rfl (j_bipush (24 : Int32) rfl kb_24 (g))) ?_
    refine J_ite (fun h1 => ?_) (fun h1 => ?_)
    · refine J_sq (fun (t2 : Int64) (σ3 : q_H) => q_G (q_rf fo) d m_Mo_sisters o σ' 133 [some (.ref v0), some (.int v1), some (.int v2), some (.int v3), some (.long v4), none, some (.long t2), none, some (.int v8), none, none, none] [] σ3) (q_J.step (fun g => j_icmp_f rfl (cc_ge_f h1) (j_iconst (0 : Int32) rfl k32_0 (j_istore [some (.ref v0), some (.int v1), some (.int v2), some (.int v3), some (.long v4), none, some (.long v6), none, some (.int v8), some (.int (0 : Int32)), none, none] rfl rfl (Or.inr rfl) rfl (g)))) (l_Mo_sisters_L56 hd v0 v1 v2 v3 v4 v8 (fun _ _ h => h) q_FU v6 (0 : Int32) σ)) (fun t2 σ3 => ?_)
      exact q_J.step (fun g => j_iinc [some (.ref v0), some (.int v1), some (.int v2), some (.int v3), some (.long v4), none, some (.long t2), none, some (.int (v8 + (1 : Int32))), none, none, none] (v8 + (1 : Int32)) rfl rfl (by rw [k32_1]) (Or.inr True.intro) rfl (j_goto rfl (g))) (l_Mo_sisters_L46 hd v0 v1 v2 v3 v4 hX n t2 (v8 + (1 : Int32)) σ3)
    exact J_some (fun h => j_icmp_t rfl (cc_ge_t h1) (j_weak (l := [some (.ref v0), none, none, some (.int v3), some (.long v4), none, some (.long v6), none, none, none, none, none]) (And.intro (Or.inr rfl) (And.intro (Or.inl rfl) (And.intro (Or.inl rfl) (And.intro (Or.inr rfl) (And.intro (Or.inr rfl) (And.intro (Or.inr rfl) (And.intro (Or.inr rfl) (And.intro (Or.inr rfl) (And.intro (Or.inl rfl) (And.intro (Or.inr rfl) (And.intro (Or.inr rfl) (And.intro (Or.inr rfl) True.intro)))))))))))) (hX _ _ h)))

set_option maxRecDepth 100000 in
theorem b_Mo_sisters {fo : Option Nat} {d : Nat} (hd : 7 ≤ d + 1) {o : q_O} {σ' : q_H} (v0 : Nat) (v1 : Int32) (v2 : Int32) (v3 : Int32) (σ : q_H) : q_J (fun (r : Int64) (σ1 : q_H) => o = .inl (some (.long r)) ∧ σ' = σ1) (f_Mo_sisters v0 v1 v2 v3 σ) (q_G (q_rf fo) d m_Mo_sisters o σ' 0 [some (.ref v0), some (.int v1), some (.int v2), some (.int v3), none, none, none, none, none, none, none, none] [] σ) := by
  unfold f_Mo_sisters
  refine J_bind fun σ1 hσ1 => ?_
  refine J_cl fun x3 σ2 hσ2 => ?_
  refine q_J.step (fun g => j_aload_n rfl rfl (j_iconst (0 : Int32) rfl k32_0 (j_putf rfl rfl rfl rfl hσ1 (j_iload_n rfl rfl (j_s1 [.int v1] [] rfl rfl rfl rfl rfl (t_Mo_isTable (by omega) hσ2) (g)))))) ?_
  refine J_ite (fun h4 => ?_) (fun h4 => ?_)
  · exact J_some (fun h => j_if_t rfl (cc_eq_t h4) (j_ldc2 (-1 : Int64) rfl kw_m1 (j_lret rfl rfl h)))
  refine J_cl fun x6 σ5 hσ5 => ?_
  refine q_J.step (fun g => j_if_f rfl (cc_eq_f h4) (j_iload_n rfl rfl (j_iconst (0 : Int32) rfl k32_0 (j_bipush (30 : Int32) rfl kb_30 (j_s1 [.int v2, .int (0 : Int32), .int (30 : Int32)] [] rfl rfl rfl rfl rfl (t_Mo_within (by omega) hσ5) (g)))))) ?_
  refine J_ite (fun h7 => ?_) (fun h7 => ?_)
  · exact J_some (fun h => j_if_t rfl (cc_eq_t h7) (j_ldc2 (-1 : Int64) rfl kw_m1 (j_lret rfl rfl h)))
  refine J_cl fun x9 σ8 hσ8 => ?_
  refine q_J.step (fun g => j_if_f rfl (cc_eq_f h7) (j_iload_n rfl rfl (j_iconst (0 : Int32) rfl k32_0 (j_iconst (1 : Int32) rfl k32_1 (j_s1 [.int v3, .int (0 : Int32), .int (1 : Int32)] [] rfl rfl rfl rfl rfl (t_Mo_within (by omega) hσ8) (g)))))) ?_
  refine J_ite (fun h10 => ?_) (fun h10 => ?_)
  · exact J_some (fun h => j_if_f rfl (cc_ne_f h10) (j_ldc2 (-1 : Int64) rfl kw_m1 (j_lret rfl rfl h)))
  refine J_sq (fun (t11 : Int64) (σ12 : q_H) => q_G (q_rf fo) d m_Mo_sisters o σ' 139 [some (.ref v0), none, none, some (.int v3), some (.long (10000000000000000 : Int64)), none, some (.long t11), none, none, none, none, none] [] σ12) (q_J.step (fun g => j_if_t rfl (cc_ne_t h10) (j_ldc2 (10000000000000000 : Int64) rfl kw_10000000000000000 (j_lstore [some (.ref v0), some (.int v1), some (.int v2), some (.int v3), some (.long (10000000000000000 : Int64)), none, none, none, none, none, none, none] rfl rfl (Or.inr rfl) rfl (j_lconst (0 : Int64) rfl kl_0 (j_lstore [some (.ref v0), some (.int v1), some (.int v2), some (.int v3), some (.long (10000000000000000 : Int64)), none, some (.long (0 : Int64)), none, none, none, none, none] rfl rfl (Or.inr True.intro) rfl (j_iconst (0 : Int32) rfl k32_0 (j_istore [some (.ref v0), some (.int v1), some (.int v2), some (.int v3), some (.long (10000000000000000 : Int64)), none, some (.long (0 : Int64)), none, some (.int (0 : Int32)), none, none, none] rfl rfl (Or.inr True.intro) rfl (g)))))))) (l_Mo_sisters_L46 hd v0 v1 v2 v3 (10000000000000000 : Int64) (fun _ _ h => h) q_FU (0 : Int64) (0 : Int32) σ8)) (fun t11 σ12 => ?_)
  refine J_bind fun w13 hw13 => ?_
  refine J_cl fun x15 σ14 hσ14 => ?_
  refine q_J.step (fun g => j_aload_n rfl rfl (j_iconst (0 : Int32) rfl k32_0 (j_iconst (0 : Int32) rfl k32_0 (j_iconst (-1 : Int32) rfl k32_m1 (j_iconst (1 : Int32) rfl k32_1 (j_iconst (2 : Int32) rfl k32_2 (j_v1 [.ref v0, .int (0 : Int32), .int (0 : Int32), .int (-1 : Int32), .int (1 : Int32), .int (2 : Int32)] [] rfl rfl rfl rfl rfl rfl hw13 (Or.inl rfl) (t_Mo_countOf (by omega) hσ14) (j_i2l rfl (j_lload rfl rfl (j_lmul rfl (j_lload rfl rfl (j_lsub rfl (j_lstore [some (.ref v0), none, none, some (.int v3), some (.long (10000000000000000 : Int64)), none, some (.long t11), none, some (.long ((x15.toInt64 * (10000000000000000 : Int64)) - t11)), none, none, none] rfl rfl (Or.inr True.intro) rfl (j_iload_n rfl rfl (g))))))))))))))) ?_
  refine J_ite (fun h16 => ?_) (fun h16 => ?_)
  · exact J_some (fun h => j_if_f rfl (cc_ne_f h16) (j_lload rfl rfl (j_goto rfl (j_lret rfl rfl h))))
  refine q_J.step (fun g => j_if_t rfl (cc_ne_t h16) (j_lload rfl rfl (j_lconst (0 : Int64) rfl kl_0 (j_lcmp rfl (g))))) ?_
  refine J_ite (fun h17 => ?_) (fun h17 => ?_)
  · exact J_some (fun h => j_if_t rfl (lc_gt_t h17) (j_lload rfl rfl (j_lload rfl rfl (j_ladd rfl (j_lconst (1 : Int64) rfl kl_1 (j_lsub rfl (j_lload rfl rfl (j_ldiv rfl (by decide) (j_lret rfl rfl h)))))))))
  exact J_some (fun h => j_if_f rfl (lc_gt_f h17) (j_lconst (0 : Int64) rfl kl_0 (j_goto rfl (j_lret rfl rfl h))))
theorem t_Mo_sisters {fo : Option Nat} {d : Nat} (hd : 7 ≤ d) {v0 : Nat} {v1 : Int32} {v2 : Int32} {v3 : Int32} {σ σ1 : q_H} {r : Int64} (h : f_Mo_sisters v0 v1 v2 v3 σ = some (r, σ1)) : q_Rel (q_rf fo) q_Ms d 245 [.ref v0, .int v1, .int v2, .int v3] σ (.inl (some (.long r))) σ1 := by
  obtain ⟨d, rfl⟩ : ∃ d1, d = d1 + 1 := ⟨d - 1, by omega⟩
  exact q_Rel.of rfl rfl (b_Mo_sisters hd _ _ _ _ σ _ _ h ⟨rfl, rfl⟩)

set_option maxRecDepth 100000 in
theorem b_Mo_born {fo : Option Nat} {d : Nat} (hd : 7 ≤ d + 1) {o : q_O} {σ' : q_H} (v0 : Nat) (v1 : Int32) (v2 : Int32) (σ : q_H) : q_J (fun (r : Int32) (σ1 : q_H) => o = .inl (some (.int r)) ∧ σ' = σ1) (f_Mo_born v0 v1 v2 σ) (q_G (q_rf fo) d m_Mo_born o σ' 0 [some (.ref v0), some (.int v1), some (.int v2), none] [] σ) := by
  unfold f_Mo_born
  refine J_bind fun σ1 hσ1 => ?_
  refine q_J.step (fun g => j_aload_n rfl rfl (j_iconst (0 : Int32) rfl k32_0 (j_putf rfl rfl rfl rfl hσ1 (j_aload_n rfl rfl (j_iconst (0 : Int32) rfl k32_0 (j_iconst (0 : Int32) rfl k32_0 (j_iconst (-1 : Int32) rfl k32_m1 (j_bipush (31 : Int32) rfl kb_31 (j_iload_n rfl rfl (g)))))))))) ?_
  refine J_sq (fun (t3 : Int32) (σ4 : q_H) => q_G (q_rf fo) d m_Mo_born o σ' 20 [some (.ref v0), some (.int v1), some (.int v2), none] [.int t3, .int (31 : Int32), .int (-1 : Int32), .int (0 : Int32), .int (0 : Int32), .ref v0] σ4) ?_ (fun t3 σ4 => ?_)
  · refine J_ite (fun h2 => ?_) (fun h2 => ?_)
    · exact J_some (fun h => j_if_t rfl (cc_eq_t h2) (j_iconst (1 : Int32) rfl k32_1 (h)))
    exact J_some (fun h => j_if_f rfl (cc_eq_f h2) (j_iconst (0 : Int32) rfl k32_0 (j_goto rfl (h))))
  refine J_bind fun w5 hw5 => ?_
  refine J_cl fun x7 σ6 hσ6 => ?_
  refine J_cl fun x9 σ8 hσ8 => ?_
  refine q_J.step (fun g => j_v1 [.ref v0, .int (0 : Int32), .int (0 : Int32), .int (-1 : Int32), .int (31 : Int32), .int t3] [] rfl rfl rfl rfl rfl rfl hw5 (Or.inl rfl) (t_Mo_countOf (by omega) hσ6) (j_istore_n [some (.ref v0), some (.int v1), some (.int v2), some (.int x7)] rfl rfl (Or.inr rfl) rfl (j_iload_n rfl rfl (j_iconst (0 : Int32) rfl k32_0 (j_iconst (1 : Int32) rfl k32_1 (j_s1 [.int v2, .int (0 : Int32), .int (1 : Int32)] [] rfl rfl rfl rfl rfl (t_Mo_within (by omega) hσ8) (g))))))) ?_
  refine J_ite (fun h10 => ?_) (fun h10 => ?_)
  · exact J_some (fun h => j_if_t rfl (cc_eq_t h10) (j_iconst (-1 : Int32) rfl k32_m1 (j_goto rfl (j_iret rfl rfl h))))
  refine q_J.step (fun g => j_if_f rfl (cc_eq_f h10) (j_iload_n rfl rfl (g))) ?_
  refine J_ite (fun h11 => ?_) (fun h11 => ?_)
  · exact J_some (fun h => j_if_f rfl (cc_ne_f h11) (j_iconst (-1 : Int32) rfl k32_m1 (j_goto rfl (j_iret rfl rfl h))))
  refine q_J.step (fun g => j_if_t rfl (cc_ne_t h11) (j_aload_n rfl rfl (j_iconst (0 : Int32) rfl k32_0 (j_iconst (0 : Int32) rfl k32_0 (j_iconst (-1 : Int32) rfl k32_m1 (j_iconst (1 : Int32) rfl k32_1 (j_iload_n rfl rfl (g)))))))) ?_
  refine J_sq (fun (t13 : Int32) (σ14 : q_H) => q_G (q_rf fo) d m_Mo_born o σ' 55 [none, none, some (.int v2), some (.int x7)] [.int t13, .int (1 : Int32), .int (-1 : Int32), .int (0 : Int32), .int (0 : Int32), .ref v0] σ14) ?_ (fun t13 σ14 => ?_)
  · refine J_ite (fun h12 => ?_) (fun h12 => ?_)
    · exact J_some (fun h => j_if_t rfl (cc_eq_t h12) (j_iconst (1 : Int32) rfl k32_1 (j_weak (l := [none, none, some (.int v2), some (.int x7)]) (And.intro (Or.inl rfl) (And.intro (Or.inl rfl) (And.intro (Or.inr rfl) (And.intro (Or.inr rfl) True.intro)))) (h))))
    exact J_some (fun h => j_if_f rfl (cc_eq_f h12) (j_iconst (0 : Int32) rfl k32_0 (j_goto rfl (j_weak (l := [none, none, some (.int v2), some (.int x7)]) (And.intro (Or.inl rfl) (And.intro (Or.inl rfl) (And.intro (Or.inr rfl) (And.intro (Or.inr rfl) True.intro)))) (h)))))
  refine J_bind fun w15 hw15 => ?_
  refine J_cl fun x17 σ16 hσ16 => ?_
  refine J_cl fun x19 σ18 hσ18 => ?_
  exact J_some (fun h => j_v1 [.ref v0, .int (0 : Int32), .int (0 : Int32), .int (-1 : Int32), .int (1 : Int32), .int t13] [] rfl rfl rfl rfl rfl rfl hw15 (Or.inl rfl) (t_Mo_countOf (by omega) hσ16) (j_i2l rfl (j_iload_n rfl rfl (j_i2l rfl (j_iload_n rfl rfl (j_s1 [.long x17.toInt64, .long x7.toInt64, .int v2] [] rfl rfl rfl rfl rfl (t_Mo_lowest (by omega) hσ18) (j_l2i rfl (j_iret rfl rfl h))))))))
theorem t_Mo_born {fo : Option Nat} {d : Nat} (hd : 7 ≤ d) {v0 : Nat} {v1 : Int32} {v2 : Int32} {σ σ1 : q_H} {r : Int32} (h : f_Mo_born v0 v1 v2 σ = some (r, σ1)) : q_Rel (q_rf fo) q_Ms d 247 [.ref v0, .int v1, .int v2] σ (.inl (some (.int r))) σ1 := by
  obtain ⟨d, rfl⟩ : ∃ d1, d = d1 + 1 := ⟨d - 1, by omega⟩
  exact q_Rel.of rfl rfl (b_Mo_born hd _ _ _ σ _ _ h ⟨rfl, rfl⟩)

set_option maxRecDepth 100000 in
theorem b_Mo_fails {fo : Option Nat} {d : Nat} (hd : 7 ≤ d + 1) {o : q_O} {σ' : q_H} (v0 : Nat) (v1 : Int32) (σ : q_H) : q_J (fun (r : Int32) (σ1 : q_H) => o = .inl (some (.int r)) ∧ σ' = σ1) (f_Mo_fails v0 v1 σ) (q_G (q_rf fo) d m_Mo_fails o σ' 0 [some (.ref v0), some (.int v1)] [] σ) := by
  unfold f_Mo_fails
  refine J_bind fun σ1 hσ1 => ?_
  refine J_cl fun x3 σ2 hσ2 => ?_
  refine q_J.step (fun g => j_aload_n rfl rfl (j_iconst (0 : Int32) rfl k32_0 (j_putf rfl rfl rfl rfl hσ1 (j_iload_n rfl rfl (j_s1 [.int v1] [] rfl rfl rfl rfl rfl (t_Mo_isTable (by omega) hσ2) (g)))))) ?_
  refine J_ite (fun h4 => ?_) (fun h4 => ?_)
  · exact J_some (fun h => j_if_t rfl (cc_eq_t h4) (j_iconst (-1 : Int32) rfl k32_m1 (j_iret rfl rfl h)))
  refine J_bind fun w5 hw5 => ?_
  refine J_cl fun x7 σ6 hσ6 => ?_
  exact J_some (fun h => j_if_f rfl (cc_eq_f h4) (j_aload_n rfl rfl (j_iload_n rfl rfl (j_iload_n rfl rfl (j_v1 [.ref v0, .int v1, .int v1] [] rfl rfl rfl rfl rfl rfl hw5 (Or.inl rfl) (t_Mo_failsOf (by omega) hσ6) (j_goto rfl (j_iret rfl rfl h)))))))
theorem t_Mo_fails {fo : Option Nat} {d : Nat} (hd : 7 ≤ d) {v0 : Nat} {v1 : Int32} {σ σ1 : q_H} {r : Int32} (h : f_Mo_fails v0 v1 σ = some (r, σ1)) : q_Rel (q_rf fo) q_Ms d 259 [.ref v0, .int v1] σ (.inl (some (.int r))) σ1 := by
  obtain ⟨d, rfl⟩ : ∃ d1, d = d1 + 1 := ⟨d - 1, by omega⟩
  exact q_Rel.of rfl rfl (b_Mo_fails hd _ _ σ _ _ h ⟨rfl, rfl⟩)

set_option maxRecDepth 100000 in
theorem l_Mo_fittest_L9 {fo : Option Nat} {d : Nat} (hd : 7 ≤ d + 1) {o : q_O} {σ' : q_H} {E : (Int32) → q_H → Prop} (v0 : Nat) (hX : ∀ (t : Int32) σ1, E (t) σ1 → q_G (q_rf fo) d m_Mo_fittest o σ' 41 [none, some (.int t), none] [] σ1)  : ∀ (n : Nat) (v1 : Int32) (v2 : Int32) (σ : q_H), q_J E (f_Mo_fittest_L9 v0 n v1 v2 σ) (q_G (q_rf fo) d m_Mo_fittest o σ' 9 [some (.ref v0), some (.int v1), some (.int v2)] [] σ)
  | 0, v1, v2, σ => J_none
  | n + 1, v1, v2, σ => by
    unfold f_Mo_fittest_L9
    refine q_J.step (fun g => j_iload_n rfl rfl (j_iconst (4 : Int32) rfl k32_4 (g))) ?_
    refine J_ite (fun h1 => ?_) (fun h1 => ?_)
    · refine J_bind fun w2 hw2 => ?_
      refine J_cl fun x4 σ3 hσ3 => ?_
      refine J_bind fun w5 hw5 => ?_
      refine J_cl fun x7 σ6 hσ6 => ?_
      refine q_J.step (fun g => j_icmp_f rfl (cc_ge_f h1) (j_aload_n rfl rfl (j_iload_n rfl rfl (j_iload_n rfl rfl (j_v1 [.ref v0, .int v2, .int v2] [] rfl rfl rfl rfl rfl rfl hw2 (Or.inl rfl) (t_Mo_failsOf (by omega) hσ3) (j_aload_n rfl rfl (j_iload_n rfl rfl (j_iload_n rfl rfl (j_v1 [.ref v0, .int v1, .int v1] [.int x4] rfl rfl rfl rfl rfl rfl hw5 (Or.inl rfl) (t_Mo_failsOf (by omega) hσ6) (g)))))))))) ?_
      refine J_ite (fun h8 => ?_) (fun h8 => ?_)
      · exact q_J.step (fun g => j_icmp_f rfl (cc_ge_f h8) (j_iload_n rfl rfl (j_goto rfl (j_istore_n [some (.ref v0), some (.int v2), some (.int v2)] rfl rfl (Or.inr rfl) rfl (j_iinc [some (.ref v0), some (.int v2), some (.int (v2 + (1 : Int32)))] (v2 + (1 : Int32)) rfl rfl (by rw [k32_1]) (Or.inr rfl) rfl (j_goto rfl (g))))))) (l_Mo_fittest_L9 hd v0 hX n v2 (v2 + (1 : Int32)) σ6)
      exact q_J.step (fun g => j_icmp_t rfl (cc_ge_t h8) (j_iload_n rfl rfl (j_istore_n [some (.ref v0), some (.int v1), some (.int v2)] rfl rfl (Or.inr rfl) rfl (j_iinc [some (.ref v0), some (.int v1), some (.int (v2 + (1 : Int32)))] (v2 + (1 : Int32)) rfl rfl (by rw [k32_1]) (Or.inr rfl) rfl (j_goto rfl (g)))))) (l_Mo_fittest_L9 hd v0 hX n v1 (v2 + (1 : Int32)) σ6)
    exact J_some (fun h => j_icmp_t rfl (cc_ge_t h1) (j_weak (l := [none, some (.int v1), none]) (And.intro (Or.inl rfl) (And.intro (Or.inr rfl) (And.intro (Or.inl rfl) True.intro))) (hX _ _ h)))

set_option maxRecDepth 100000 in
theorem b_Mo_fittest {fo : Option Nat} {d : Nat} (hd : 7 ≤ d + 1) {o : q_O} {σ' : q_H} (v0 : Nat) (σ : q_H) : q_J (fun (r : Int32) (σ1 : q_H) => o = .inl (some (.int r)) ∧ σ' = σ1) (f_Mo_fittest v0 σ) (q_G (q_rf fo) d m_Mo_fittest o σ' 0 [some (.ref v0), none, none] [] σ) := by
  unfold f_Mo_fittest
  refine J_bind fun σ1 hσ1 => ?_
  refine J_sq (fun (t2 : Int32) (σ3 : q_H) => q_G (q_rf fo) d m_Mo_fittest o σ' 41 [none, some (.int t2), none] [] σ3) (q_J.step (fun g => j_aload_n rfl rfl (j_iconst (0 : Int32) rfl k32_0 (j_putf rfl rfl rfl rfl hσ1 (j_iconst (0 : Int32) rfl k32_0 (j_istore_n [some (.ref v0), some (.int (0 : Int32)), none] rfl rfl (Or.inr rfl) rfl (j_iconst (1 : Int32) rfl k32_1 (j_istore_n [some (.ref v0), some (.int (0 : Int32)), some (.int (1 : Int32))] rfl rfl (Or.inr rfl) rfl (g)))))))) (l_Mo_fittest_L9 hd v0 (fun _ _ h => h) q_FU (0 : Int32) (1 : Int32) σ1)) (fun t2 σ3 => ?_)
  exact J_some (fun h => j_iload_n rfl rfl (j_iret rfl rfl h))
theorem t_Mo_fittest {fo : Option Nat} {d : Nat} (hd : 7 ≤ d) {v0 : Nat} {σ σ1 : q_H} {r : Int32} (h : f_Mo_fittest v0 σ = some (r, σ1)) : q_Rel (q_rf fo) q_Ms d 261 [.ref v0] σ (.inl (some (.int r))) σ1 := by
  obtain ⟨d, rfl⟩ : ∃ d1, d = d1 + 1 := ⟨d - 1, by omega⟩
  exact q_Rel.of rfl rfl (b_Mo_fittest hd _ σ _ _ h ⟨rfl, rfl⟩)

set_option maxRecDepth 100000 in
theorem b_Mo_apart {fo : Option Nat} {d : Nat} (hd : 7 ≤ d + 1) {o : q_O} {σ' : q_H} (v0 : Nat) (v1 : Int32) (v2 : Int32) (σ : q_H) : q_J (fun (r : Int32) (σ1 : q_H) => o = .inl (some (.int r)) ∧ σ' = σ1) (f_Mo_apart v0 v1 v2 σ) (q_G (q_rf fo) d m_Mo_apart o σ' 0 [some (.ref v0), some (.int v1), some (.int v2)] [] σ) := by
  unfold f_Mo_apart
  refine J_bind fun σ1 hσ1 => ?_
  refine J_cl fun x3 σ2 hσ2 => ?_
  refine q_J.step (fun g => j_aload_n rfl rfl (j_iconst (0 : Int32) rfl k32_0 (j_putf rfl rfl rfl rfl hσ1 (j_iload_n rfl rfl (j_s1 [.int v1] [] rfl rfl rfl rfl rfl (t_Mo_isTable (by omega) hσ2) (g)))))) ?_
  refine J_ite (fun h4 => ?_) (fun h4 => ?_)
  · exact J_some (fun h => j_if_t rfl (cc_eq_t h4) (j_iconst (-1 : Int32) rfl k32_m1 (j_goto rfl (j_iret rfl rfl h))))
  refine J_cl fun x6 σ5 hσ5 => ?_
  refine q_J.step (fun g => j_if_f rfl (cc_eq_f h4) (j_iload_n rfl rfl (j_s1 [.int v2] [] rfl rfl rfl rfl rfl (t_Mo_isTable (by omega) hσ5) (g)))) ?_
  refine J_ite (fun h7 => ?_) (fun h7 => ?_)
  · exact J_some (fun h => j_if_f rfl (cc_ne_f h7) (j_iconst (-1 : Int32) rfl k32_m1 (j_goto rfl (j_iret rfl rfl h))))
  refine q_J.step (fun g => j_if_t rfl (cc_ne_t h7) (j_iload_n rfl rfl (j_iload_n rfl rfl (g)))) ?_
  refine J_ite (fun h8 => ?_) (fun h8 => ?_)
  · exact J_some (fun h => j_icmp_f rfl (cc_ne_f h8) (j_iconst (0 : Int32) rfl k32_0 (j_goto rfl (j_iret rfl rfl h))))
  refine J_bind fun w9 hw9 => ?_
  refine J_cl fun x11 σ10 hσ10 => ?_
  exact J_some (fun h => j_icmp_t rfl (cc_ne_t h8) (j_aload_n rfl rfl (j_iload_n rfl rfl (j_iload_n rfl rfl (j_v1 [.ref v0, .int v2, .int v1] [] rfl rfl rfl rfl rfl rfl hw9 (Or.inl rfl) (t_Mo_failsOf (by omega) hσ10) (j_iret rfl rfl h))))))
theorem t_Mo_apart {fo : Option Nat} {d : Nat} (hd : 7 ≤ d) {v0 : Nat} {v1 : Int32} {v2 : Int32} {σ σ1 : q_H} {r : Int32} (h : f_Mo_apart v0 v1 v2 σ = some (r, σ1)) : q_Rel (q_rf fo) q_Ms d 262 [.ref v0, .int v1, .int v2] σ (.inl (some (.int r))) σ1 := by
  obtain ⟨d, rfl⟩ : ∃ d1, d = d1 + 1 := ⟨d - 1, by omega⟩
  exact q_Rel.of rfl rfl (b_Mo_apart hd _ _ _ σ _ _ h ⟨rfl, rfl⟩)

set_option maxRecDepth 100000 in
theorem l_Mo_rates_L63 {fo : Option Nat} {d : Nat} (hd : 7 ≤ d + 1) {o : q_O} {σ' : q_H} {E : (Int32) → q_H → Prop} (v0 : Nat) (v1 : Int32) (v2 : Int32) (v3 : Int32) (v4 : Int32) (v5 : Int32) (v6 : Int32) (v7 : Int32) (hX : ∀ (t : Int32) σ1, E (t) σ1 → q_G (q_rf fo) d m_Mo_rates o σ' 114 [none, none, none, none, none, none, none, none, some (.int t), none] [] σ1)  : ∀ (n : Nat) (v8 : Int32) (v9 : Int32) (σ : q_H), q_J E (f_Mo_rates_L63 v0 v1 v2 v3 v4 v5 v6 v7 n v8 v9 σ) (q_G (q_rf fo) d m_Mo_rates o σ' 63 [some (.ref v0), some (.int v1), some (.int v2), some (.int v3), some (.int v4), some (.int v5), some (.int v6), some (.int v7), some (.int v8), some (.int v9)] [] σ)
  | 0, v8, v9, σ => J_none
  | n + 1, v8, v9, σ => by
    unfold f_Mo_rates_L63
    refine q_J.step (fun g => j_iload rfl rfl (j_iload_n rfl rfl (g))) ?_
    refine J_ite (fun h1 => ?_) (fun h1 => ?_)
    · refine J_bind fun w2 hw2 => ?_
      refine J_cl fun _ σ3 hσ3 => ?_
      refine J_bind fun x5 hx5 => ?_
      refine J_bind fun x6 hx6 => ?_
      refine q_J.step (fun g => j_icmp_f rfl (cc_ge_f h1) (j_aload_n rfl rfl (j_iload rfl rfl (j_iload_n rfl rfl (j_iload_n rfl rfl (j_iload rfl rfl (j_iload rfl rfl (j_v0 [.ref v0, .int v9, .int v2, .int v3, .int v4, .int v5] [] rfl rfl rfl rfl rfl rfl hw2 (Or.inl rfl) (t_Mo_runs (by omega) hσ3) (j_iload rfl rfl (j_aload_n rfl rfl (j_gfi rfl hx5 (j_iload rfl rfl (j_imul rfl (j_iload rfl rfl (g))))))))))))))) ?_
      refine q_J.step (fun g => j_aload_n rfl rfl (j_gfi rfl hx6 (j_imul rfl (g)))) ?_
      refine J_ite (fun h7 => ?_) (fun h7 => ?_)
      · exact q_J.step (fun g => j_icmp_t rfl (cc_lt_t h7) (j_iconst (0 : Int32) rfl k32_0 (j_iadd rfl (j_istore [some (.ref v0), some (.int v1), some (.int v2), some (.int v3), some (.int v4), some (.int v5), some (.int v6), some (.int v7), some (.int (v8 + (0 : Int32))), some (.int v9)] rfl rfl (Or.inr rfl) rfl (j_iinc [some (.ref v0), some (.int v1), some (.int v2), some (.int v3), some (.int v4), some (.int v5), some (.int v6), some (.int v7), some (.int (v8 + (0 : Int32))), some (.int (v9 + (1 : Int32)))] (v9 + (1 : Int32)) rfl rfl (by rw [k32_1]) (Or.inr rfl) rfl (j_goto rfl (g))))))) (l_Mo_rates_L63 hd v0 v1 v2 v3 v4 v5 v6 v7 hX n (v8 + (0 : Int32)) (v9 + (1 : Int32)) σ3)
      exact q_J.step (fun g => j_icmp_f rfl (cc_lt_f h7) (j_iconst (1 : Int32) rfl k32_1 (j_goto rfl (j_iadd rfl (j_istore [some (.ref v0), some (.int v1), some (.int v2), some (.int v3), some (.int v4), some (.int v5), some (.int v6), some (.int v7), some (.int (v8 + (1 : Int32))), some (.int v9)] rfl rfl (Or.inr rfl) rfl (j_iinc [some (.ref v0), some (.int v1), some (.int v2), some (.int v3), some (.int v4), some (.int v5), some (.int v6), some (.int v7), some (.int (v8 + (1 : Int32))), some (.int (v9 + (1 : Int32)))] (v9 + (1 : Int32)) rfl rfl (by rw [k32_1]) (Or.inr rfl) rfl (j_goto rfl (g)))))))) (l_Mo_rates_L63 hd v0 v1 v2 v3 v4 v5 v6 v7 hX n (v8 + (1 : Int32)) (v9 + (1 : Int32)) σ3)
    exact J_some (fun h => j_icmp_t rfl (cc_ge_t h1) (j_weak (l := [none, none, none, none, none, none, none, none, some (.int v8), none]) (And.intro (Or.inl rfl) (And.intro (Or.inl rfl) (And.intro (Or.inl rfl) (And.intro (Or.inl rfl) (And.intro (Or.inl rfl) (And.intro (Or.inl rfl) (And.intro (Or.inl rfl) (And.intro (Or.inl rfl) (And.intro (Or.inr rfl) (And.intro (Or.inl rfl) True.intro)))))))))) (hX _ _ h)))

set_option maxRecDepth 100000 in
theorem b_Mo_rates {fo : Option Nat} {d : Nat} (hd : 7 ≤ d + 1) {o : q_O} {σ' : q_H} (v0 : Nat) (v1 : Int32) (v2 : Int32) (v3 : Int32) (v4 : Int32) (v5 : Int32) (σ : q_H) : q_J (fun (r : Int32) (σ1 : q_H) => o = .inl (some (.int r)) ∧ σ' = σ1) (f_Mo_rates v0 v1 v2 v3 v4 v5 σ) (q_G (q_rf fo) d m_Mo_rates o σ' 0 [some (.ref v0), some (.int v1), some (.int v2), some (.int v3), some (.int v4), some (.int v5), none, none, none, none] [] σ) := by
  unfold f_Mo_rates
  refine J_bind fun σ1 hσ1 => ?_
  refine J_bind fun w2 hw2 => ?_
  refine J_cl fun x4 σ3 hσ3 => ?_
  refine J_cl fun x6 σ5 hσ5 => ?_
  refine q_J.step (fun g => j_aload_n rfl rfl (j_iconst (0 : Int32) rfl k32_0 (j_putf rfl rfl rfl rfl hσ1 (j_aload_n rfl rfl (j_iconst (0 : Int32) rfl k32_0 (j_iconst (0 : Int32) rfl k32_0 (j_iconst (-1 : Int32) rfl k32_m1 (j_bipush (31 : Int32) rfl kb_31 (j_iconst (2 : Int32) rfl k32_2 (j_v1 [.ref v0, .int (0 : Int32), .int (0 : Int32), .int (-1 : Int32), .int (31 : Int32), .int (2 : Int32)] [] rfl rfl rfl rfl rfl rfl hw2 (Or.inl rfl) (t_Mo_countOf (by omega) hσ3) (j_istore [some (.ref v0), some (.int v1), some (.int v2), some (.int v3), some (.int v4), some (.int v5), some (.int x4), none, none, none] rfl rfl (Or.inr rfl) rfl (j_iload_n rfl rfl (j_iconst (1 : Int32) rfl k32_1 (j_bipush (20 : Int32) rfl kb_20 (g))))))))))))))) ?_
  refine q_J.step (fun g => j_s1 [.int v1, .int (1 : Int32), .int (20 : Int32)] [] rfl rfl rfl rfl rfl (t_Mo_within (by omega) hσ5) (g)) ?_
  refine J_ite (fun h7 => ?_) (fun h7 => ?_)
  · exact J_some (fun h => j_if_t rfl (cc_eq_t h7) (j_iconst (-1 : Int32) rfl k32_m1 (j_iret rfl rfl h)))
  refine J_cl fun x9 σ8 hσ8 => ?_
  refine q_J.step (fun g => j_if_f rfl (cc_eq_f h7) (j_iload_n rfl rfl (j_iload_n rfl rfl (j_iload rfl rfl (j_iload rfl rfl (j_s1 [.int v2, .int v3, .int v4, .int v5] [] rfl rfl rfl rfl rfl (t_Mo_isWorld (by omega) hσ8) (g))))))) ?_
  refine J_ite (fun h10 => ?_) (fun h10 => ?_)
  · exact J_some (fun h => j_if_t rfl (cc_eq_t h10) (j_iconst (-1 : Int32) rfl k32_m1 (j_iret rfl rfl h)))
  refine q_J.step (fun g => j_if_f rfl (cc_eq_f h10) (j_iload rfl rfl (g))) ?_
  refine J_ite (fun h11 => ?_) (fun h11 => ?_)
  · exact J_some (fun h => j_if_f rfl (cc_ne_f h11) (j_iconst (-1 : Int32) rfl k32_m1 (j_iret rfl rfl h)))
  refine J_bind fun w12 hw12 => ?_
  refine J_cl fun x14 σ13 hσ13 => ?_
  refine J_sq (fun (t15 : Int32) (σ16 : q_H) => q_G (q_rf fo) d m_Mo_rates o σ' 114 [none, none, none, none, none, none, none, none, some (.int t15), none] [] σ16) (q_J.step (fun g => j_if_t rfl (cc_ne_t h11) (j_aload_n rfl rfl (j_iconst (0 : Int32) rfl k32_0 (j_iconst (0 : Int32) rfl k32_0 (j_iconst (-1 : Int32) rfl k32_m1 (j_iconst (1 : Int32) rfl k32_1 (j_iconst (2 : Int32) rfl k32_2 (j_v1 [.ref v0, .int (0 : Int32), .int (0 : Int32), .int (-1 : Int32), .int (1 : Int32), .int (2 : Int32)] [] rfl rfl rfl rfl rfl rfl hw12 (Or.inl rfl) (t_Mo_countOf (by omega) hσ13) (j_istore [some (.ref v0), some (.int v1), some (.int v2), some (.int v3), some (.int v4), some (.int v5), some (.int x4), some (.int x14), none, none] rfl rfl (Or.inr rfl) rfl (j_iconst (0 : Int32) rfl k32_0 (j_istore [some (.ref v0), some (.int v1), some (.int v2), some (.int v3), some (.int v4), some (.int v5), some (.int x4), some (.int x14), some (.int (0 : Int32)), none] rfl rfl (Or.inr rfl) rfl (j_iconst (0 : Int32) rfl k32_0 (j_istore [some (.ref v0), some (.int v1), some (.int v2), some (.int v3), some (.int v4), some (.int v5), some (.int x4), some (.int x14), some (.int (0 : Int32)), some (.int (0 : Int32))] rfl rfl (Or.inr rfl) rfl (g)))))))))))))) (l_Mo_rates_L63 hd v0 v1 v2 v3 v4 v5 x4 x14 (fun _ _ h => h) q_FU (0 : Int32) (0 : Int32) σ13)) (fun t15 σ16 => ?_)
  exact J_some (fun h => j_iload rfl rfl (j_iret rfl rfl h))
theorem t_Mo_rates {fo : Option Nat} {d : Nat} (hd : 7 ≤ d) {v0 : Nat} {v1 : Int32} {v2 : Int32} {v3 : Int32} {v4 : Int32} {v5 : Int32} {σ σ1 : q_H} {r : Int32} (h : f_Mo_rates v0 v1 v2 v3 v4 v5 σ = some (r, σ1)) : q_Rel (q_rf fo) q_Ms d 268 [.ref v0, .int v1, .int v2, .int v3, .int v4, .int v5] σ (.inl (some (.int r))) σ1 := by
  obtain ⟨d, rfl⟩ : ∃ d1, d = d1 + 1 := ⟨d - 1, by omega⟩
  exact q_Rel.of rfl rfl (b_Mo_rates hd _ _ _ _ _ _ σ _ _ h ⟨rfl, rfl⟩)

set_option maxRecDepth 100000 in
theorem l_Mo_lays_L7 {fo : Option Nat} {d : Nat} (hd : 7 ≤ d + 1) {o : q_O} {σ' : q_H} {E : (Unit) → q_H → Prop} (v0 : Nat) (hX : ∀ (t : Unit) σ1, E (t) σ1 → q_G (q_rf fo) d m_Mo_lays o σ' 118 [none, none, none, none] [] σ1)  : ∀ (n : Nat) (v1 : Int32) (σ : q_H), q_J E (f_Mo_lays_L7 v0 n v1 σ) (q_G (q_rf fo) d m_Mo_lays o σ' 7 [some (.ref v0), some (.int v1), none, none] [] σ)
  | 0, v1, σ => J_none
  | n + 1, v1, σ => by
    unfold f_Mo_lays_L7
    refine q_J.step (fun g => j_iload_n rfl rfl (j_sipush (225 : Int32) rfl ks_225 (g))) ?_
    refine J_ite (fun h1 => ?_) (fun h1 => ?_)
    · refine q_J.step (fun g => j_icmp_f rfl (cc_ge_f h1) (j_iload_n rfl rfl (j_bipush (25 : Int32) rfl kb_25 (j_irem rfl (by decide) (j_iconst (1 : Int32) rfl k32_1 (j_isub rfl (j_istore_n [some (.ref v0), some (.int v1), some (.int ((v1 - v1 / (25 : Int32) * (25 : Int32)) - (1 : Int32))), none] rfl rfl (Or.inr rfl) rfl (j_iload_n rfl rfl (g))))))))) ?_
      refine J_ite (fun h2 => ?_) (fun h2 => ?_)
      · refine J_bind fun w3 hw3 => ?_
        refine J_cl fun x5 σ4 hσ4 => ?_
        refine q_J.step (fun g => j_if_t rfl (cc_lt_t h2) (j_aload_n rfl rfl (j_iconst (0 : Int32) rfl k32_0 (j_iconst (0 : Int32) rfl k32_0 (j_iload_n rfl rfl (j_bipush (31 : Int32) rfl kb_31 (j_iconst (2 : Int32) rfl k32_2 (j_iload_n rfl rfl (j_bipush (25 : Int32) rfl kb_25 (j_idiv rfl (by decide) (j_iconst (3 : Int32) rfl k32_3 (j_irem rfl (by decide) (j_isub rfl (j_v1 [.ref v0, .int (0 : Int32), .int (0 : Int32), .int ((v1 - v1 / (25 : Int32) * (25 : Int32)) - (1 : Int32)), .int (31 : Int32), .int ((2 : Int32) - ((v1 / (25 : Int32)) - (v1 / (25 : Int32)) / (3 : Int32) * (3 : Int32)))] [] rfl rfl rfl rfl rfl rfl hw3 (Or.inl rfl) (t_Mo_countOf (by omega) hσ4) (g))))))))))))))) ?_
        refine q_J.step (fun g => j_istore_n [some (.ref v0), some (.int v1), some (.int ((v1 - v1 / (25 : Int32) * (25 : Int32)) - (1 : Int32))), some (.int x5)] rfl rfl (Or.inr rfl) rfl (j_iload_n rfl rfl (g))) ?_
        refine J_ite (fun h6 => ?_) (fun h6 => ?_)
        · exact q_J.step (fun g => j_if_f rfl (cc_ne_f h6) (j_goto rfl (j_iinc [some (.ref v0), some (.int (v1 + (1 : Int32))), some (.int ((v1 - v1 / (25 : Int32) * (25 : Int32)) - (1 : Int32))), some (.int x5)] (v1 + (1 : Int32)) rfl rfl (by rw [k32_1]) (Or.inr rfl) rfl (j_goto rfl (j_weak (l := [some (.ref v0), some (.int (v1 + (1 : Int32))), none, none]) (And.intro (Or.inr rfl) (And.intro (Or.inr rfl) (And.intro (Or.inl rfl) (And.intro (Or.inl rfl) True.intro)))) (g)))))) (l_Mo_lays_L7 hd v0 hX n (v1 + (1 : Int32)) σ4)
        refine J_bind fun x7 hx7 => ?_
        refine J_bind fun x8 hx8 => ?_
        refine J_cl fun x10 σ9 hσ9 => ?_
        refine J_bind fun w11 hw11 => ?_
        refine J_cl fun x13 σ12 hσ12 => ?_
        refine J_bind fun σ14 hσ14 => ?_
        refine J_bind fun x15 hx15 => ?_
        refine J_bind fun x16 hx16 => ?_
        refine J_bind fun σ17 hσ17 => ?_
        refine J_bind fun x18 hx18 => ?_
        refine J_bind fun σ19 hσ19 => ?_
        exact q_J.step (fun g => j_if_t rfl (cc_ne_t h6) (j_aload_n rfl rfl (j_gfr rfl hx7 (j_aload_n rfl rfl (j_gfi rfl hx8 (j_aload_n rfl rfl (j_iconst (0 : Int32) rfl k32_0 (j_iconst (0 : Int32) rfl k32_0 (j_iload_n rfl rfl (j_iload_n rfl rfl (j_bipush (75 : Int32) rfl kb_75 (j_idiv rfl (by decide) (j_s1 [.int (v1 / (75 : Int32))] [.int ((v1 - v1 / (25 : Int32) * (25 : Int32)) - (1 : Int32)), .int (0 : Int32), .int (0 : Int32), .ref v0, .int x8, .ref x7] rfl rfl rfl rfl rfl (t_Mo_sorts (by omega) hσ9) (j_iconst (2 : Int32) rfl k32_2 (j_iload_n rfl rfl (j_bipush (25 : Int32) rfl kb_25 (j_idiv rfl (by decide) (j_iconst (3 : Int32) rfl k32_3 (j_irem rfl (by decide) (j_isub rfl (j_v1 [.ref v0, .int (0 : Int32), .int (0 : Int32), .int ((v1 - v1 / (25 : Int32) * (25 : Int32)) - (1 : Int32)), .int x10, .int ((2 : Int32) - ((v1 / (25 : Int32)) - (v1 / (25 : Int32)) / (3 : Int32) * (3 : Int32)))] [.int x8, .ref x7] rfl rfl rfl rfl rfl rfl hw11 (Or.inl rfl) (t_Mo_countOf (by omega) hσ12) (j_ias rfl hσ14 (j_aload_n rfl rfl (j_gfr rfl hx15 (j_aload_n rfl rfl (j_gfi rfl hx16 (j_iload_n rfl rfl (j_ias rfl hσ17 (j_aload_n rfl rfl (j_dup rfl rfl (j_gfi rfl hx18 (j_iconst (1 : Int32) rfl k32_1 (j_iadd rfl (j_putf rfl rfl rfl rfl hσ19 (j_iinc [some (.ref v0), some (.int (v1 + (1 : Int32))), some (.int ((v1 - v1 / (25 : Int32) * (25 : Int32)) - (1 : Int32))), some (.int x5)] (v1 + (1 : Int32)) rfl rfl (by rw [k32_1]) (Or.inr rfl) rfl (j_goto rfl (j_weak (l := [some (.ref v0), some (.int (v1 + (1 : Int32))), none, none]) (And.intro (Or.inr rfl) (And.intro (Or.inr rfl) (And.intro (Or.inl rfl) (And.intro (Or.inl rfl) True.intro)))) (g)))))))))))))))))))))))))))))))))))))) (l_Mo_lays_L7 hd v0 hX n (v1 + (1 : Int32)) σ19)
      refine J_bind fun w20 hw20 => ?_
      refine J_cl fun x22 σ21 hσ21 => ?_
      refine q_J.step (fun g => j_if_f rfl (cc_lt_f h2) (j_aload_n rfl rfl (j_iload_n rfl rfl (j_v1 [.ref v0, .int ((v1 - v1 / (25 : Int32) * (25 : Int32)) - (1 : Int32))] [] rfl rfl rfl rfl rfl rfl hw20 (Or.inl rfl) (t_Mo_isThere (by omega) hσ21) (g))))) ?_
      refine J_ite (fun h23 => ?_) (fun h23 => ?_)
      · exact q_J.step (fun g => j_if_f rfl (cc_ne_f h23) (j_goto rfl (j_iinc [some (.ref v0), some (.int (v1 + (1 : Int32))), some (.int ((v1 - v1 / (25 : Int32) * (25 : Int32)) - (1 : Int32))), none] (v1 + (1 : Int32)) rfl rfl (by rw [k32_1]) (Or.inr rfl) rfl (j_goto rfl (j_weak (l := [some (.ref v0), some (.int (v1 + (1 : Int32))), none, none]) (And.intro (Or.inr rfl) (And.intro (Or.inr rfl) (And.intro (Or.inl rfl) (And.intro (Or.inr rfl) True.intro)))) (g)))))) (l_Mo_lays_L7 hd v0 hX n (v1 + (1 : Int32)) σ21)
      refine J_bind fun w24 hw24 => ?_
      refine J_cl fun x26 σ25 hσ25 => ?_
      refine q_J.step (fun g => j_if_t rfl (cc_ne_t h23) (j_aload_n rfl rfl (j_iconst (0 : Int32) rfl k32_0 (j_iconst (0 : Int32) rfl k32_0 (j_iload_n rfl rfl (j_bipush (31 : Int32) rfl kb_31 (j_iconst (2 : Int32) rfl k32_2 (j_iload_n rfl rfl (j_bipush (25 : Int32) rfl kb_25 (j_idiv rfl (by decide) (j_iconst (3 : Int32) rfl k32_3 (j_irem rfl (by decide) (j_isub rfl (j_v1 [.ref v0, .int (0 : Int32), .int (0 : Int32), .int ((v1 - v1 / (25 : Int32) * (25 : Int32)) - (1 : Int32)), .int (31 : Int32), .int ((2 : Int32) - ((v1 / (25 : Int32)) - (v1 / (25 : Int32)) / (3 : Int32) * (3 : Int32)))] [] rfl rfl rfl rfl rfl rfl hw24 (Or.inl rfl) (t_Mo_countOf (by omega) hσ25) (g))))))))))))))) ?_
      refine q_J.step (fun g => j_istore_n [some (.ref v0), some (.int v1), some (.int ((v1 - v1 / (25 : Int32) * (25 : Int32)) - (1 : Int32))), some (.int x26)] rfl rfl (Or.inr rfl) rfl (j_iload_n rfl rfl (g))) ?_
      refine J_ite (fun h27 => ?_) (fun h27 => ?_)
      · exact q_J.step (fun g => j_if_f rfl (cc_ne_f h27) (j_goto rfl (j_iinc [some (.ref v0), some (.int (v1 + (1 : Int32))), some (.int ((v1 - v1 / (25 : Int32) * (25 : Int32)) - (1 : Int32))), some (.int x26)] (v1 + (1 : Int32)) rfl rfl (by rw [k32_1]) (Or.inr rfl) rfl (j_goto rfl (j_weak (l := [some (.ref v0), some (.int (v1 + (1 : Int32))), none, none]) (And.intro (Or.inr rfl) (And.intro (Or.inr rfl) (And.intro (Or.inl rfl) (And.intro (Or.inl rfl) True.intro)))) (g)))))) (l_Mo_lays_L7 hd v0 hX n (v1 + (1 : Int32)) σ25)
      refine J_bind fun x28 hx28 => ?_
      refine J_bind fun x29 hx29 => ?_
      refine J_cl fun x31 σ30 hσ30 => ?_
      refine J_bind fun w32 hw32 => ?_
      refine J_cl fun x34 σ33 hσ33 => ?_
      refine J_bind fun σ35 hσ35 => ?_
      refine J_bind fun x36 hx36 => ?_
      refine J_bind fun x37 hx37 => ?_
      refine J_bind fun σ38 hσ38 => ?_
      refine J_bind fun x39 hx39 => ?_
      refine J_bind fun σ40 hσ40 => ?_
      exact q_J.step (fun g => j_if_t rfl (cc_ne_t h27) (j_aload_n rfl rfl (j_gfr rfl hx28 (j_aload_n rfl rfl (j_gfi rfl hx29 (j_aload_n rfl rfl (j_iconst (0 : Int32) rfl k32_0 (j_iconst (0 : Int32) rfl k32_0 (j_iload_n rfl rfl (j_iload_n rfl rfl (j_bipush (75 : Int32) rfl kb_75 (j_idiv rfl (by decide) (j_s1 [.int (v1 / (75 : Int32))] [.int ((v1 - v1 / (25 : Int32) * (25 : Int32)) - (1 : Int32)), .int (0 : Int32), .int (0 : Int32), .ref v0, .int x29, .ref x28] rfl rfl rfl rfl rfl (t_Mo_sorts (by omega) hσ30) (j_iconst (2 : Int32) rfl k32_2 (j_iload_n rfl rfl (j_bipush (25 : Int32) rfl kb_25 (j_idiv rfl (by decide) (j_iconst (3 : Int32) rfl k32_3 (j_irem rfl (by decide) (j_isub rfl (j_v1 [.ref v0, .int (0 : Int32), .int (0 : Int32), .int ((v1 - v1 / (25 : Int32) * (25 : Int32)) - (1 : Int32)), .int x31, .int ((2 : Int32) - ((v1 / (25 : Int32)) - (v1 / (25 : Int32)) / (3 : Int32) * (3 : Int32)))] [.int x29, .ref x28] rfl rfl rfl rfl rfl rfl hw32 (Or.inl rfl) (t_Mo_countOf (by omega) hσ33) (j_ias rfl hσ35 (j_aload_n rfl rfl (j_gfr rfl hx36 (j_aload_n rfl rfl (j_gfi rfl hx37 (j_iload_n rfl rfl (j_ias rfl hσ38 (j_aload_n rfl rfl (j_dup rfl rfl (j_gfi rfl hx39 (j_iconst (1 : Int32) rfl k32_1 (j_iadd rfl (j_putf rfl rfl rfl rfl hσ40 (j_iinc [some (.ref v0), some (.int (v1 + (1 : Int32))), some (.int ((v1 - v1 / (25 : Int32) * (25 : Int32)) - (1 : Int32))), some (.int x26)] (v1 + (1 : Int32)) rfl rfl (by rw [k32_1]) (Or.inr rfl) rfl (j_goto rfl (j_weak (l := [some (.ref v0), some (.int (v1 + (1 : Int32))), none, none]) (And.intro (Or.inr rfl) (And.intro (Or.inr rfl) (And.intro (Or.inl rfl) (And.intro (Or.inl rfl) True.intro)))) (g)))))))))))))))))))))))))))))))))))))) (l_Mo_lays_L7 hd v0 hX n (v1 + (1 : Int32)) σ40)
    exact J_some (fun h => j_icmp_t rfl (cc_ge_t h1) (j_weak (l := [none, none, none, none]) (And.intro (Or.inl rfl) (And.intro (Or.inl rfl) (And.intro (Or.inr rfl) (And.intro (Or.inr rfl) True.intro)))) (hX _ _ h)))

set_option maxRecDepth 100000 in
theorem b_Mo_lays {fo : Option Nat} {d : Nat} (hd : 7 ≤ d + 1) {o : q_O} {σ' : q_H} (v0 : Nat) (σ : q_H) : q_J (fun (r : Unit) (σ1 : q_H) => o = .inl none ∧ σ' = σ1) (f_Mo_lays v0 σ) (q_G (q_rf fo) d m_Mo_lays o σ' 0 [some (.ref v0), none, none, none] [] σ) := by
  unfold f_Mo_lays
  refine J_bind fun σ1 hσ1 => ?_
  refine J_sq (fun (t2 : Unit) (σ3 : q_H) => q_G (q_rf fo) d m_Mo_lays o σ' 118 [none, none, none, none] [] σ3) (q_J.step (fun g => j_aload_n rfl rfl (j_iconst (0 : Int32) rfl k32_0 (j_putf rfl rfl rfl rfl hσ1 (j_iconst (0 : Int32) rfl k32_0 (j_istore_n [some (.ref v0), some (.int (0 : Int32)), none, none] rfl rfl (Or.inr rfl) rfl (g)))))) (l_Mo_lays_L7 hd v0 (fun _ _ h => h) q_FU (0 : Int32) σ1)) (fun t2 σ3 => ?_)
  exact J_some (fun h => j_vret rfl rfl h)
theorem t_Mo_lays {fo : Option Nat} {d : Nat} (hd : 7 ≤ d) {v0 : Nat} {σ σ1 : q_H} {r : Unit} (h : f_Mo_lays v0 σ = some (r, σ1)) : q_Rel (q_rf fo) q_Ms d 270 [.ref v0] σ (.inl none) σ1 := by
  obtain ⟨d, rfl⟩ : ∃ d1, d = d1 + 1 := ⟨d - 1, by omega⟩
  exact q_Rel.of rfl rfl (b_Mo_lays hd _ σ _ _ h ⟨rfl, rfl⟩)

