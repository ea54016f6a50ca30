/-! Methods of the class: walks: by program. -/
set_option maxRecDepth 100000 in
theorem b_Rs_share {fo : Option Nat} {d : Nat} (hd : 5 ≤ d + 1) {o : q_O} {σ' : q_H} (v0 : Nat) (v1 : Int32) (v2 : Int32) (v3 : Int32) (v4 : Int32) (σ : q_H) : q_J (fun (r : Int32) (σ1 : q_H) => o = .inl (some (.int r)) ∧ σ' = σ1) (f_Rs_share v0 v1 v2 v3 v4 σ) (q_G (q_rf fo) d m_Rs_share o σ' 0 [some (.ref v0), some (.int v1), some (.int v2), some (.int v3), some (.int v4), none] [] σ) := by
  unfold f_Rs_share
  refine J_cl fun x2 σ1 hσ1 => ?_
  refine q_J.step (fun g => j_iload_n rfl rfl (j_iload_n rfl rfl (j_s1 [.int v1, .int v2] [] rfl rfl rfl rfl rfl (t_Rs_isScope (by omega) hσ1) (g)))) ?_
  refine J_ite (fun h3 => ?_) (fun h3 => ?_)
  · exact J_some (fun h => j_if_t rfl (cc_eq_t h3) (j_iconst (-1 : Int32) rfl k32_m1 (j_iret rfl rfl h)))
  refine J_cl fun x5 σ4 hσ4 => ?_
  refine q_J.step (fun g => j_if_f rfl (cc_eq_f h3) (j_iconst (0 : Int32) rfl k32_0 (j_iload_n rfl rfl (j_iconst (2 : Int32) rfl k32_2 (j_s1 [.int (0 : Int32), .int v3, .int (2 : Int32)] [] rfl rfl rfl rfl rfl (t_Rs_isFrom (by omega) hσ4) (g)))))) ?_
  refine J_ite (fun h6 => ?_) (fun h6 => ?_)
  · exact J_some (fun h => j_if_f rfl (cc_ne_f h6) (j_iconst (-1 : Int32) rfl k32_m1 (j_iret rfl rfl h)))
  refine J_bind fun w7 hw7 => ?_
  refine J_cl fun x9 σ8 hσ8 => ?_
  refine J_bind fun w10 hw10 => ?_
  refine J_cl fun x12 σ11 hσ11 => ?_
  refine J_bind fun w13 hw13 => ?_
  refine J_cl fun x15 σ14 hσ14 => ?_
  refine J_cl fun x17 σ16 hσ16 => ?_
  refine J_cl fun x19 σ18 hσ18 => ?_
  exact J_some (fun h => j_if_t rfl (cc_ne_t h6) (j_aload_n rfl rfl (j_iload_n rfl rfl (j_iload_n rfl rfl (j_v1 [.ref v0, .int v1, .int v2] [] rfl rfl rfl rfl rfl rfl hw7 (Or.inl rfl) (t_Rs_gather (by omega) hσ8) (j_astore [some (.ref v0), some (.int v1), some (.int v2), some (.int v3), some (.int v4), some (.ref x9)] rfl rfl (Or.inr rfl) rfl (j_aload rfl rfl (j_iload_n rfl rfl (j_iconst (0 : Int32) rfl k32_0 (j_v1 [.ref x9, .int v3, .int (0 : Int32)] [] rfl rfl rfl rfl rfl rfl hw10 (Or.inl rfl) (t_Ty_picked (by omega) hσ11) (j_i2l rfl (j_aload rfl rfl (j_iconst (0 : Int32) rfl k32_0 (j_v1 [.ref x9, .int (0 : Int32)] [.long x12.toInt64] rfl rfl rfl rfl rfl rfl hw13 (Or.inl rfl) (t_Ty_all (by omega) hσ14) (j_i2l rfl (j_s1 [.long x12.toInt64, .long x15.toInt64] [] rfl rfl rfl rfl rfl (t_Ra_of (by omega) hσ16) (j_iload rfl rfl (j_s1 [q_rf x17, .int v4] [] rfl rfl rfl rfl rfl (t_Rs_partOf (by omega) hσ18) (j_iret rfl rfl h)))))))))))))))))))
theorem t_Rs_share {fo : Option Nat} {d : Nat} (hd : 5 ≤ d) {v0 : Nat} {v1 : Int32} {v2 : Int32} {v3 : Int32} {v4 : Int32} {σ σ1 : q_H} {r : Int32} (h : f_Rs_share v0 v1 v2 v3 v4 σ = some (r, σ1)) : q_Rel (q_rf fo) q_Ms d 120 [.ref v0, .int v1, .int v2, .int v3, .int v4] σ (.inl (some (.int r))) σ1 := by
  obtain ⟨d, rfl⟩ : ∃ d1, d = d1 + 1 := ⟨d - 1, by omega⟩
  exact q_Rel.of rfl rfl (b_Rs_share hd _ _ _ _ _ σ _ _ h ⟨rfl, rfl⟩)

set_option maxRecDepth 100000 in
theorem l_Rs_mover_L14 {fo : Option Nat} {d : Nat} (hd : 5 ≤ d + 1) {o : q_O} {σ' : q_H} {E : (Int32) → q_H → Prop} (v0 : Nat) (v1 : Nat) (hX : ∀ (t : Int32) σ1, E (t) σ1 → q_G (q_rf fo) d m_Rs_mover o σ' 60 [none, none, some (.int t), none, none, none] [] σ1)  : ∀ (n : Nat) (v2 : Int32) (v3 : Option Nat) (v4 : Int32) (σ : q_H), q_J E (f_Rs_mover_L14 v0 v1 n v2 v3 v4 σ) (q_G (q_rf fo) d m_Rs_mover o σ' 14 [some (.ref v0), some (.ref v1), some (.int v2), some (q_rf v3), some (.int v4), none] [] σ)
  | 0, v2, v3, v4, σ => J_none
  | n + 1, v2, v3, v4, σ => by
    unfold f_Rs_mover_L14
    refine q_J.step (fun g => j_iload rfl rfl (j_bipush (24 : Int32) rfl kb_24 (g))) ?_
    refine J_ite (fun h1 => ?_) (fun h1 => ?_)
    · refine J_bind fun w2 hw2 => ?_
      refine J_cl fun x4 σ3 hσ3 => ?_
      refine q_J.step (fun g => j_icmp_f rfl (cc_ge_f h1) (j_aload_n rfl rfl (j_iload rfl rfl (j_aload_n rfl rfl (j_v1 [.ref v0, .int v4, .ref v1] [] rfl rfl rfl rfl rfl rfl hw2 (Or.inl rfl) (t_Rs_moveOf (by omega) hσ3) (j_astoreO (x := x4) [some (.ref v0), some (.ref v1), some (.int v2), some (q_rf v3), some (.int v4), some (q_rf x4)] rfl rfl (Or.inr rfl) rfl (j_aloadO (x := x4) rfl rfl (g)))))))) ?_
      cases ha5 : x4 with
      | none =>
        try subst ha5
        exact q_J.step (fun g => j_nul_t rfl (j_iinc [some (.ref v0), some (.ref v1), some (.int v2), some (q_rf v3), some (.int (v4 + (1 : Int32))), some (.null)] (v4 + (1 : Int32)) rfl rfl (by rw [k32_1]) (Or.inr (q_rf_cat _)) rfl (j_goto rfl (j_weak (l := [some (.ref v0), some (.ref v1), some (.int v2), some (q_rf v3), some (.int (v4 + (1 : Int32))), none]) (And.intro (Or.inr rfl) (And.intro (Or.inr rfl) (And.intro (Or.inr rfl) (And.intro (Or.inr rfl) (And.intro (Or.inr rfl) (And.intro (Or.inl rfl) True.intro)))))) (g))))) (l_Rs_mover_L14 hd v0 v1 hX n v2 v3 (v4 + (1 : Int32)) σ3)
      | some a5 =>
        try subst ha5
        refine q_J.step (fun g => j_nul_f rfl (j_aload_nO (x := v3) rfl rfl (g))) ?_
        cases ha6 : v3 with
        | none =>
          try subst ha6
          exact q_J.step (fun g => j_nul_t rfl (j_iload rfl rfl (j_istore_n [some (.ref v0), some (.ref v1), some (.int v4), some (.null), some (.int v4), some (.ref a5)] rfl rfl (Or.inr rfl) rfl (j_aload rfl rfl (j_astore_n [some (.ref v0), some (.ref v1), some (.int v4), some (.ref a5), some (.int v4), some (.ref a5)] rfl rfl (Or.inr rfl) rfl (j_iinc [some (.ref v0), some (.ref v1), some (.int v4), some (.ref a5), some (.int (v4 + (1 : Int32))), some (.ref a5)] (v4 + (1 : Int32)) rfl rfl (by rw [k32_1]) (Or.inr rfl) rfl (j_goto rfl (j_weak (l := [some (.ref v0), some (.ref v1), some (.int v4), some (.ref a5), some (.int (v4 + (1 : Int32))), none]) (And.intro (Or.inr rfl) (And.intro (Or.inr rfl) (And.intro (Or.inr rfl) (And.intro (Or.inr rfl) (And.intro (Or.inr rfl) (And.intro (Or.inl rfl) True.intro)))))) (g))))))))) (l_Rs_mover_L14 hd v0 v1 hX n v4 (some a5) (v4 + (1 : Int32)) σ3)
        | some a6 =>
          try subst ha6
          refine J_bind fun w7 hw7 => ?_
          refine J_cl fun x9 σ8 hσ8 => ?_
          refine q_J.step (fun g => j_nul_f rfl (j_aload rfl rfl (j_aload_n rfl rfl (j_v1 [.ref a5, .ref a6] [] rfl rfl rfl rfl rfl rfl hw7 (Or.inl rfl) (t_Ra_isFartherThan (by omega) hσ8) (g))))) ?_
          refine J_ite (fun h10 => ?_) (fun h10 => ?_)
          · exact q_J.step (fun g => j_if_t rfl (cc_eq_t h10) (j_iinc [some (.ref v0), some (.ref v1), some (.int v2), some (.ref a6), some (.int (v4 + (1 : Int32))), some (.ref a5)] (v4 + (1 : Int32)) rfl rfl (by rw [k32_1]) (Or.inr rfl) rfl (j_goto rfl (j_weak (l := [some (.ref v0), some (.ref v1), some (.int v2), some (.ref a6), some (.int (v4 + (1 : Int32))), none]) (And.intro (Or.inr rfl) (And.intro (Or.inr rfl) (And.intro (Or.inr rfl) (And.intro (Or.inr rfl) (And.intro (Or.inr rfl) (And.intro (Or.inl rfl) True.intro)))))) (g))))) (l_Rs_mover_L14 hd v0 v1 hX n v2 (some a6) (v4 + (1 : Int32)) σ8)
          exact q_J.step (fun g => j_if_f rfl (cc_eq_f h10) (j_iload rfl rfl (j_istore_n [some (.ref v0), some (.ref v1), some (.int v4), some (.ref a6), some (.int v4), some (.ref a5)] rfl rfl (Or.inr rfl) rfl (j_aload rfl rfl (j_astore_n [some (.ref v0), some (.ref v1), some (.int v4), some (.ref a5), some (.int v4), some (.ref a5)] rfl rfl (Or.inr rfl) rfl (j_iinc [some (.ref v0), some (.ref v1), some (.int v4), some (.ref a5), some (.int (v4 + (1 : Int32))), some (.ref a5)] (v4 + (1 : Int32)) rfl rfl (by rw [k32_1]) (Or.inr rfl) rfl (j_goto rfl (j_weak (l := [some (.ref v0), some (.ref v1), some (.int v4), some (.ref a5), some (.int (v4 + (1 : Int32))), none]) (And.intro (Or.inr rfl) (And.intro (Or.inr rfl) (And.intro (Or.inr rfl) (And.intro (Or.inr rfl) (And.intro (Or.inr rfl) (And.intro (Or.inl rfl) True.intro)))))) (g))))))))) (l_Rs_mover_L14 hd v0 v1 hX n v4 (some a5) (v4 + (1 : Int32)) σ8)
    exact J_some (fun h => j_icmp_t rfl (cc_ge_t h1) (j_weak (l := [none, none, some (.int v2), none, none, none]) (And.intro (Or.inl rfl) (And.intro (Or.inl rfl) (And.intro (Or.inr rfl) (And.intro (Or.inl rfl) (And.intro (Or.inl rfl) (And.intro (Or.inr rfl) True.intro)))))) (hX _ _ h)))

set_option maxRecDepth 100000 in
theorem b_Rs_mover {fo : Option Nat} {d : Nat} (hd : 5 ≤ d + 1) {o : q_O} {σ' : q_H} (v0 : Nat) (σ : q_H) : q_J (fun (r : Int32) (σ1 : q_H) => o = .inl (some (.int r)) ∧ σ' = σ1) (f_Rs_mover v0 σ) (q_G (q_rf fo) d m_Rs_mover o σ' 0 [some (.ref v0), none, none, none, none, none] [] σ) := by
  unfold f_Rs_mover
  refine J_bind fun w1 hw1 => ?_
  refine J_cl fun x3 σ2 hσ2 => ?_
  refine J_sq (fun (t4 : Int32) (σ5 : q_H) => q_G (q_rf fo) d m_Rs_mover o σ' 60 [none, none, some (.int t4), none, none, none] [] σ5) (q_J.step (fun g => j_aload_n rfl rfl (j_iconst (0 : Int32) rfl k32_0 (j_iconst (0 : Int32) rfl k32_0 (j_v1 [.ref v0, .int (0 : Int32), .int (0 : Int32)] [] rfl rfl rfl rfl rfl rfl hw1 (Or.inl rfl) (t_Rs_gather (by omega) hσ2) (j_astore_n [some (.ref v0), some (.ref x3), none, none, none, none] rfl rfl (Or.inr rfl) rfl (j_iconst (-1 : Int32) rfl k32_m1 (j_istore_n [some (.ref v0), some (.ref x3), some (.int (-1 : Int32)), none, none, none] rfl rfl (Or.inr rfl) rfl (j_null rfl (j_astore_nO (x := none) [some (.ref v0), some (.ref x3), some (.int (-1 : Int32)), some (.null), none, none] rfl rfl (Or.inr rfl) rfl (j_iconst (0 : Int32) rfl k32_0 (j_istore [some (.ref v0), some (.ref x3), some (.int (-1 : Int32)), some (.null), some (.int (0 : Int32)), none] rfl rfl (Or.inr rfl) rfl (g)))))))))))) (l_Rs_mover_L14 hd v0 x3 (fun _ _ h => h) q_FU (-1 : Int32) none (0 : Int32) σ2)) (fun t4 σ5 => ?_)
  exact J_some (fun h => j_iload_n rfl rfl (j_iret rfl rfl h))
theorem t_Rs_mover {fo : Option Nat} {d : Nat} (hd : 5 ≤ d) {v0 : Nat} {σ σ1 : q_H} {r : Int32} (h : f_Rs_mover v0 σ = some (r, σ1)) : q_Rel (q_rf fo) q_Ms d 122 [.ref v0] σ (.inl (some (.int r))) σ1 := by
  obtain ⟨d, rfl⟩ : ∃ d1, d = d1 + 1 := ⟨d - 1, by omega⟩
  exact q_Rel.of rfl rfl (b_Rs_mover hd _ σ _ _ h ⟨rfl, rfl⟩)

set_option maxRecDepth 100000 in
theorem l_Rs_bounds_L23 {fo : Option Nat} {d : Nat} (hd : 5 ≤ d + 1) {o : q_O} {σ' : q_H} {E : (Int32) → q_H → Prop} (v0 : Nat) (v1 : Int32) (v2 : Nat) (hX : ∀ (t : Int32) σ1, E (t) σ1 → q_G (q_rf fo) d m_Rs_bounds o σ' 61 [none, some (.int v1), some (.ref v2), some (.int t), none] [] σ1)  : ∀ (n : Nat) (v3 : Int32) (v4 : Int32) (σ : q_H), q_J E (f_Rs_bounds_L23 v0 v1 v2 n v3 v4 σ) (q_G (q_rf fo) d m_Rs_bounds o σ' 23 [some (.ref v0), some (.int v1), some (.ref v2), some (.int v3), some (.int v4)] [] σ)
  | 0, v3, v4, σ => J_none
  | n + 1, v3, v4, σ => by
    unfold f_Rs_bounds_L23
    refine q_J.step (fun g => j_iload rfl rfl (j_bipush (24 : Int32) rfl kb_24 (g))) ?_
    refine J_ite (fun h1 => ?_) (fun h1 => ?_)
    · refine J_bind fun x2 hx2 => ?_
      refine J_bind fun w3 hw3 => ?_
      refine J_cl fun x5 σ4 hσ4 => ?_
      refine q_J.step (fun g => j_icmp_f rfl (cc_ge_f h1) (j_aload_n rfl rfl (j_gfr rfl hx2 (j_iload rfl rfl (j_v1 [.ref x2, .int v4] [] rfl rfl rfl rfl rfl rfl hw3 (Or.inl rfl) (t_Sf_isUnread (by omega) hσ4) (g)))))) ?_
      refine J_ite (fun h6 => ?_) (fun h6 => ?_)
      · exact q_J.step (fun g => j_if_t rfl (cc_eq_t h6) (j_iinc [some (.ref v0), some (.int v1), some (.ref v2), some (.int v3), some (.int (v4 + (1 : Int32)))] (v4 + (1 : Int32)) rfl rfl (by rw [k32_1]) (Or.inr rfl) rfl (j_goto rfl (g)))) (l_Rs_bounds_L23 hd v0 v1 v2 hX n v3 (v4 + (1 : Int32)) σ4)
      refine J_bind fun x7 hx7 => ?_
      refine J_bind fun x8 hx8 => ?_
      refine J_bind fun x9 hx9 => ?_
      exact q_J.step (fun g => j_if_f rfl (cc_eq_f h6) (j_iload_n rfl rfl (j_aload_n rfl rfl (j_gfr rfl hx7 (j_gfr rfl hx8 (j_iload rfl rfl (j_ial rfl hx9 (j_iadd rfl (j_istore_n [some (.ref v0), some (.int v1), some (.ref v2), some (.int (v3 + x9)), some (.int v4)] rfl rfl (Or.inr rfl) rfl (j_iinc [some (.ref v0), some (.int v1), some (.ref v2), some (.int (v3 + x9)), some (.int (v4 + (1 : Int32)))] (v4 + (1 : Int32)) rfl rfl (by rw [k32_1]) (Or.inr rfl) rfl (j_goto rfl (g)))))))))))) (l_Rs_bounds_L23 hd v0 v1 v2 hX n (v3 + x9) (v4 + (1 : Int32)) σ4)
    exact J_some (fun h => j_icmp_t rfl (cc_ge_t h1) (j_weak (l := [none, some (.int v1), some (.ref v2), some (.int v3), none]) (And.intro (Or.inl rfl) (And.intro (Or.inr rfl) (And.intro (Or.inr rfl) (And.intro (Or.inr rfl) (And.intro (Or.inl rfl) True.intro))))) (hX _ _ h)))

set_option maxRecDepth 100000 in
theorem b_Rs_bounds {fo : Option Nat} {d : Nat} (hd : 5 ≤ d + 1) {o : q_O} {σ' : q_H} (v0 : Nat) (v1 : Int32) (σ : q_H) : q_J (fun (r : Int32) (σ1 : q_H) => o = .inl (some (.int r)) ∧ σ' = σ1) (f_Rs_bounds v0 v1 σ) (q_G (q_rf fo) d m_Rs_bounds o σ' 0 [some (.ref v0), some (.int v1), none, none, none] [] σ) := by
  unfold f_Rs_bounds
  refine J_cl fun x2 σ1 hσ1 => ?_
  refine q_J.step (fun g => j_iconst (0 : Int32) rfl k32_0 (j_iload_n rfl rfl (j_iconst (3 : Int32) rfl k32_3 (j_s1 [.int (0 : Int32), .int v1, .int (3 : Int32)] [] rfl rfl rfl rfl rfl (t_Rs_isFrom (by omega) hσ1) (g))))) ?_
  refine J_ite (fun h3 => ?_) (fun h3 => ?_)
  · exact J_some (fun h => j_if_f rfl (cc_ne_f h3) (j_iconst (-1 : Int32) rfl k32_m1 (j_iret rfl rfl h)))
  refine J_bind fun w4 hw4 => ?_
  refine J_cl fun x6 σ5 hσ5 => ?_
  refine J_sq (fun (t7 : Int32) (σ8 : q_H) => q_G (q_rf fo) d m_Rs_bounds o σ' 61 [none, some (.int v1), some (.ref x6), some (.int t7), none] [] σ8) (q_J.step (fun g => j_if_t rfl (cc_ne_t h3) (j_aload_n rfl rfl (j_iconst (0 : Int32) rfl k32_0 (j_iconst (0 : Int32) rfl k32_0 (j_v1 [.ref v0, .int (0 : Int32), .int (0 : Int32)] [] rfl rfl rfl rfl rfl rfl hw4 (Or.inl rfl) (t_Rs_gather (by omega) hσ5) (j_astore_n [some (.ref v0), some (.int v1), some (.ref x6), none, none] rfl rfl (Or.inr rfl) rfl (j_iconst (0 : Int32) rfl k32_0 (j_istore_n [some (.ref v0), some (.int v1), some (.ref x6), some (.int (0 : Int32)), none] rfl rfl (Or.inr rfl) rfl (j_iconst (0 : Int32) rfl k32_0 (j_istore [some (.ref v0), some (.int v1), some (.ref x6), some (.int (0 : Int32)), some (.int (0 : Int32))] rfl rfl (Or.inr rfl) rfl (g))))))))))) (l_Rs_bounds_L23 hd v0 v1 x6 (fun _ _ h => h) q_FU (0 : Int32) (0 : Int32) σ5)) (fun t7 σ8 => ?_)
  refine J_bind fun w9 hw9 => ?_
  refine J_cl fun x11 σ10 hσ10 => ?_
  refine q_J.step (fun g => j_aload_n rfl rfl (j_iconst (0 : Int32) rfl k32_0 (j_iconst (0 : Int32) rfl k32_0 (j_v1 [.ref x6, .int (0 : Int32), .int (0 : Int32)] [] rfl rfl rfl rfl rfl rfl hw9 (Or.inl rfl) (t_Ty_picked (by omega) hσ10) (j_iload_n rfl rfl (j_iconst (2 : Int32) rfl k32_2 (g))))))) ?_
  refine J_sq (fun (t13 : Int32) (σ14 : q_H) => q_G (q_rf fo) d m_Rs_bounds o σ' 77 [none, some (.int v1), some (.ref x6), some (.int t7), none] [.int t13, .int x11] σ14) ?_ (fun t13 σ14 => ?_)
  · refine J_ite (fun h12 => ?_) (fun h12 => ?_)
    · exact J_some (fun h => j_icmp_t rfl (cc_lt_t h12) (j_iconst (0 : Int32) rfl k32_0 (h)))
    exact J_some (fun h => j_icmp_f rfl (cc_lt_f h12) (j_iload_n rfl rfl (j_goto rfl (h))))
  refine J_bind fun w15 hw15 => ?_
  refine J_cl fun x17 σ16 hσ16 => ?_
  refine J_cl fun x19 σ18 hσ18 => ?_
  refine J_cl fun x21 σ20 hσ20 => ?_
  exact J_some (fun h => j_iadd rfl (j_istore [none, some (.int v1), some (.ref x6), some (.int t7), some (.int (x11 + t13))] rfl rfl (Or.inr rfl) rfl (j_iload rfl rfl (j_i2l rfl (j_aload_n rfl rfl (j_iconst (0 : Int32) rfl k32_0 (j_v1 [.ref x6, .int (0 : Int32)] [.long ((x11 + t13).toInt64)] rfl rfl rfl rfl rfl rfl hw15 (Or.inl rfl) (t_Ty_all (by omega) hσ16) (j_iload_n rfl rfl (j_iadd rfl (j_i2l rfl (j_s1 [.long ((x11 + t13).toInt64), .long ((x17 + t7).toInt64)] [] rfl rfl rfl rfl rfl (t_Ra_of (by omega) hσ18) (j_iload_n rfl rfl (j_iconst (2 : Int32) rfl k32_2 (j_irem rfl (by decide) (j_s1 [q_rf x19, .int (v1 - v1 / (2 : Int32) * (2 : Int32))] [] rfl rfl rfl rfl rfl (t_Rs_partOf (by omega) hσ20) (j_iret rfl rfl h))))))))))))))))
theorem t_Rs_bounds {fo : Option Nat} {d : Nat} (hd : 5 ≤ d) {v0 : Nat} {v1 : Int32} {σ σ1 : q_H} {r : Int32} (h : f_Rs_bounds v0 v1 σ = some (r, σ1)) : q_Rel (q_rf fo) q_Ms d 124 [.ref v0, .int v1] σ (.inl (some (.int r))) σ1 := by
  obtain ⟨d, rfl⟩ : ∃ d1, d = d1 + 1 := ⟨d - 1, by omega⟩
  exact q_Rel.of rfl rfl (b_Rs_bounds hd _ _ σ _ _ h ⟨rfl, rfl⟩)

set_option maxRecDepth 100000 in
theorem b_Rs_isSooner {fo : Option Nat} {d : Nat} (hd : 5 ≤ d + 1) {o : q_O} {σ' : q_H} (v0 : Nat) (v1 : Int32) (v2 : Int32) (σ : q_H) : q_J (fun (r : Int32) (σ1 : q_H) => o = .inl (some (.int r)) ∧ σ' = σ1) (f_Rs_isSooner v0 v1 v2 σ) (q_G (q_rf fo) d m_Rs_isSooner o σ' 0 [some (.ref v0), some (.int v1), some (.int v2)] [] σ) := by
  unfold f_Rs_isSooner
  refine J_bind fun x1 hx1 => ?_
  refine J_bind fun x2 hx2 => ?_
  refine J_bind fun x3 hx3 => ?_
  refine J_bind fun x4 hx4 => ?_
  refine J_bind fun x5 hx5 => ?_
  refine J_bind fun x6 hx6 => ?_
  refine q_J.step (fun g => j_aload_n rfl rfl (j_gfr rfl hx1 (j_gfr rfl hx2 (j_iload_n rfl rfl (j_ial rfl hx3 (j_aload_n rfl rfl (j_gfr rfl hx4 (j_gfr rfl hx5 (j_iload_n rfl rfl (j_ial rfl hx6 (g))))))))))) ?_
  refine J_ite (fun h7 => ?_) (fun h7 => ?_)
  · refine J_bind fun x8 hx8 => ?_
    refine J_bind fun x9 hx9 => ?_
    refine J_bind fun x10 hx10 => ?_
    refine J_bind fun x11 hx11 => ?_
    refine J_bind fun w12 hw12 => ?_
    refine J_cl fun x14 σ13 hσ13 => ?_
    refine J_bind fun x15 hx15 => ?_
    refine J_bind fun x16 hx16 => ?_
    refine J_bind fun x17 hx17 => ?_
    refine J_bind fun x18 hx18 => ?_
    refine J_bind fun w19 hw19 => ?_
    refine J_cl fun x21 σ20 hσ20 => ?_
    refine q_J.step (fun g => j_icmp_t rfl (cc_eq_t h7) (j_aload_n rfl rfl (j_gfr rfl hx8 (j_aload_n rfl rfl (j_gfr rfl hx9 (j_gfr rfl hx10 (j_iload_n rfl rfl (j_ial rfl hx11 (j_v1 [.ref x8, .int x11] [] rfl rfl rfl rfl rfl rfl hw12 (Or.inl rfl) (t_Sf_marriagesOf (by omega) hσ13) (j_aload_n rfl rfl (j_gfr rfl hx15 (j_aload_n rfl rfl (j_gfr rfl hx16 (j_gfr rfl hx17 (g))))))))))))))) ?_
    refine q_J.step (fun g => j_iload_n rfl rfl (j_ial rfl hx18 (j_v1 [.ref x15, .int x18] [.int x14] rfl rfl rfl rfl rfl rfl hw19 (Or.inl rfl) (t_Sf_marriagesOf (by omega) hσ20) (g)))) ?_
    refine J_ite (fun h22 => ?_) (fun h22 => ?_)
    · exact J_some (fun h => j_icmp_f rfl (cc_ge_f h22) (j_iconst (1 : Int32) rfl k32_1 (j_goto rfl (j_iret rfl (q_zr (Or.inr rfl)) h))))
    exact J_some (fun h => j_icmp_t rfl (cc_ge_t h22) (j_iconst (0 : Int32) rfl k32_0 (j_iret rfl (q_zr (Or.inl rfl)) h)))
  refine J_bind fun x23 hx23 => ?_
  refine J_bind fun x24 hx24 => ?_
  refine J_bind fun x25 hx25 => ?_
  refine J_bind fun x26 hx26 => ?_
  refine J_bind fun x27 hx27 => ?_
  refine J_bind fun x28 hx28 => ?_
  refine q_J.step (fun g => j_icmp_f rfl (cc_eq_f h7) (j_aload_n rfl rfl (j_gfr rfl hx23 (j_gfr rfl hx24 (j_iload_n rfl rfl (j_ial rfl hx25 (j_aload_n rfl rfl (j_gfr rfl hx26 (j_gfr rfl hx27 (j_iload_n rfl rfl (j_ial rfl hx28 (g)))))))))))) ?_
  refine J_ite (fun h29 => ?_) (fun h29 => ?_)
  · exact J_some (fun h => j_icmp_f rfl (cc_le_f h29) (j_iconst (1 : Int32) rfl k32_1 (j_goto rfl (j_iret rfl (q_zr (Or.inr rfl)) h))))
  exact J_some (fun h => j_icmp_t rfl (cc_le_t h29) (j_iconst (0 : Int32) rfl k32_0 (j_iret rfl (q_zr (Or.inl rfl)) h)))
theorem t_Rs_isSooner {fo : Option Nat} {d : Nat} (hd : 5 ≤ d) {v0 : Nat} {v1 : Int32} {v2 : Int32} {σ σ1 : q_H} {r : Int32} (h : f_Rs_isSooner v0 v1 v2 σ = some (r, σ1)) : q_Rel (q_rf fo) q_Ms d 126 [.ref v0, .int v1, .int v2] σ (.inl (some (.int r))) σ1 := by
  obtain ⟨d, rfl⟩ : ∃ d1, d = d1 + 1 := ⟨d - 1, by omega⟩
  exact q_Rel.of rfl rfl (b_Rs_isSooner hd _ _ _ σ _ _ h ⟨rfl, rfl⟩)

set_option maxRecDepth 100000 in
theorem b_Rs_one {fo : Option Nat} {d : Nat} (hd : 5 ≤ d + 1) {o : q_O} {σ' : q_H} (v0 : Nat) (v1 : Int32) (v2 : Int32) (v3 : Int32) (σ : q_H) : q_J (fun (r : Int32) (σ1 : q_H) => o = .inl (some (.int r)) ∧ σ' = σ1) (f_Rs_one v0 v1 v2 v3 σ) (q_G (q_rf fo) d m_Rs_one o σ' 0 [some (.ref v0), some (.int v1), some (.int v2), some (.int v3)] [] σ) := by
  unfold f_Rs_one
  refine J_bind fun x1 hx1 => ?_
  refine J_bind fun w2 hw2 => ?_
  refine J_cl fun x4 σ3 hσ3 => ?_
  exact J_some (fun h => j_aload_n rfl rfl (j_gfr rfl hx1 (j_iload_n rfl rfl (j_iload_n rfl rfl (j_iload_n rfl rfl (j_v1 [.ref x1, .int v1, .int v2, .int v3] [] rfl rfl rfl rfl rfl rfl hw2 (Or.inl rfl) (t_Sf_lineThatIsOne (by omega) hσ3) (j_iret rfl rfl h)))))))
theorem t_Rs_one {fo : Option Nat} {d : Nat} (hd : 5 ≤ d) {v0 : Nat} {v1 : Int32} {v2 : Int32} {v3 : Int32} {σ σ1 : q_H} {r : Int32} (h : f_Rs_one v0 v1 v2 v3 σ = some (r, σ1)) : q_Rel (q_rf fo) q_Ms d 128 [.ref v0, .int v1, .int v2, .int v3] σ (.inl (some (.int r))) σ1 := by
  obtain ⟨d, rfl⟩ : ∃ d1, d = d1 + 1 := ⟨d - 1, by omega⟩
  exact q_Rel.of rfl rfl (b_Rs_one hd _ _ _ _ σ _ _ h ⟨rfl, rfl⟩)

set_option maxRecDepth 100000 in
theorem b_Rs_born {fo : Option Nat} {d : Nat} (hd : 5 ≤ d + 1) {o : q_O} {σ' : q_H} (v0 : Nat) (v1 : Int32) (v2 : Int32) (σ : q_H) : q_J (fun (r : Int32) (σ1 : q_H) => o = .inl (some (.int r)) ∧ σ' = σ1) (f_Rs_born v0 v1 v2 σ) (q_G (q_rf fo) d m_Rs_born o σ' 0 [some (.ref v0), some (.int v1), some (.int v2), none, none] [] σ) := by
  unfold f_Rs_born
  refine J_bind fun w1 hw1 => ?_
  refine J_cl fun x3 σ2 hσ2 => ?_
  refine q_J.step (fun g => j_aload_n rfl rfl (j_iconst (0 : Int32) rfl k32_0 (j_iconst (0 : Int32) rfl k32_0 (j_v1 [.ref v0, .int (0 : Int32), .int (0 : Int32)] [] rfl rfl rfl rfl rfl rfl hw1 (Or.inl rfl) (t_Rs_gather (by omega) hσ2) (j_astore_n [some (.ref v0), some (.int v1), some (.int v2), some (.ref x3), none] rfl rfl (Or.inr rfl) rfl (j_iload_n rfl rfl (g))))))) ?_
  refine J_sq (fun (t5 : Int32) (σ6 : q_H) => q_G (q_rf fo) d m_Rs_born o σ' 16 [none, none, some (.int v2), some (.ref x3), none] [.int t5] σ6) ?_ (fun t5 σ6 => ?_)
  · refine J_ite (fun h4 => ?_) (fun h4 => ?_)
    · exact J_some (fun h => j_if_t rfl (cc_eq_t h4) (j_iconst (1 : Int32) rfl k32_1 (j_weak (l := [none, none, some (.int v2), some (.ref x3), none]) (And.intro (Or.inl rfl) (And.intro (Or.inl rfl) (And.intro (Or.inr rfl) (And.intro (Or.inr rfl) (And.intro (Or.inr rfl) True.intro))))) (h))))
    exact J_some (fun h => j_if_f rfl (cc_eq_f h4) (j_iconst (2 : Int32) rfl k32_2 (j_goto rfl (j_weak (l := [none, none, some (.int v2), some (.ref x3), none]) (And.intro (Or.inl rfl) (And.intro (Or.inl rfl) (And.intro (Or.inr rfl) (And.intro (Or.inr rfl) (And.intro (Or.inr rfl) True.intro))))) (h)))))
  refine J_bind fun w7 hw7 => ?_
  refine J_cl fun x9 σ8 hσ8 => ?_
  refine J_bind fun w10 hw10 => ?_
  refine J_cl fun x12 σ11 hσ11 => ?_
  refine J_cl fun x14 σ13 hσ13 => ?_
  refine J_cl fun x16 σ15 hσ15 => ?_
  exact J_some (fun h => j_istore [none, none, some (.int v2), some (.ref x3), some (.int t5)] rfl rfl (Or.inr rfl) rfl (j_aload_n rfl rfl (j_iconst (0 : Int32) rfl k32_0 (j_iload rfl rfl (j_v1 [.ref x3, .int (0 : Int32), .int t5] [] rfl rfl rfl rfl rfl rfl hw7 (Or.inl rfl) (t_Ty_picked (by omega) hσ8) (j_i2l rfl (j_aload_n rfl rfl (j_iload rfl rfl (j_v1 [.ref x3, .int t5] [.long x9.toInt64] rfl rfl rfl rfl rfl rfl hw10 (Or.inl rfl) (t_Ty_all (by omega) hσ11) (j_i2l rfl (j_s1 [.long x9.toInt64, .long x12.toInt64] [] rfl rfl rfl rfl rfl (t_Ra_of (by omega) hσ13) (j_iload_n rfl rfl (j_s1 [q_rf x14, .int v2] [] rfl rfl rfl rfl rfl (t_Rs_partOf (by omega) hσ15) (j_iret rfl rfl h))))))))))))))
theorem t_Rs_born {fo : Option Nat} {d : Nat} (hd : 5 ≤ d) {v0 : Nat} {v1 : Int32} {v2 : Int32} {σ σ1 : q_H} {r : Int32} (h : f_Rs_born v0 v1 v2 σ = some (r, σ1)) : q_Rel (q_rf fo) q_Ms d 143 [.ref v0, .int v1, .int v2] σ (.inl (some (.int r))) σ1 := by
  obtain ⟨d, rfl⟩ : ∃ d1, d = d1 + 1 := ⟨d - 1, by omega⟩
  exact q_Rel.of rfl rfl (b_Rs_born hd _ _ _ σ _ _ h ⟨rfl, rfl⟩)

set_option maxRecDepth 100000 in
theorem b_Rs_fails {fo : Option Nat} {d : Nat} (hd : 5 ≤ d + 1) {o : q_O} {σ' : q_H} (v0 : Nat) (v1 : Int32) (σ : q_H) : q_J (fun (r : Int32) (σ1 : q_H) => o = .inl (some (.int r)) ∧ σ' = σ1) (f_Rs_fails v0 v1 σ) (q_G (q_rf fo) d m_Rs_fails o σ' 0 [some (.ref v0), some (.int v1)] [] σ) := by
  unfold f_Rs_fails
  refine J_cl fun x2 σ1 hσ1 => ?_
  refine q_J.step (fun g => j_iconst (0 : Int32) rfl k32_0 (j_iload_n rfl rfl (j_iconst (3 : Int32) rfl k32_3 (j_s1 [.int (0 : Int32), .int v1, .int (3 : Int32)] [] rfl rfl rfl rfl rfl (t_Rs_isFrom (by omega) hσ1) (g))))) ?_
  refine J_ite (fun h3 => ?_) (fun h3 => ?_)
  · exact J_some (fun h => j_if_t rfl (cc_eq_t h3) (j_iconst (-1 : Int32) rfl k32_m1 (j_iret rfl rfl h)))
  refine J_bind fun x4 hx4 => ?_
  refine J_bind fun x5 hx5 => ?_
  refine J_bind fun w6 hw6 => ?_
  refine J_cl fun x8 σ7 hσ7 => ?_
  exact J_some (fun h => j_if_f rfl (cc_eq_f h3) (j_aload_n rfl rfl (j_null rfl (j_aload_n rfl rfl (j_gfr rfl hx4 (j_iload_n rfl rfl (j_aal rfl rfl hx5 (j_v1 [.ref v0, .null, .ref x5] [] rfl rfl rfl rfl rfl rfl hw6 (Or.inl rfl) (t_Rs_countUnlet (by omega) hσ7) (j_goto rfl (j_iret rfl rfl h))))))))))
theorem t_Rs_fails {fo : Option Nat} {d : Nat} (hd : 5 ≤ d) {v0 : Nat} {v1 : Int32} {σ σ1 : q_H} {r : Int32} (h : f_Rs_fails v0 v1 σ = some (r, σ1)) : q_Rel (q_rf fo) q_Ms d 147 [.ref v0, .int v1] σ (.inl (some (.int r))) σ1 := by
  obtain ⟨d, rfl⟩ : ∃ d1, d = d1 + 1 := ⟨d - 1, by omega⟩
  exact q_Rel.of rfl rfl (b_Rs_fails hd _ _ σ _ _ h ⟨rfl, rfl⟩)

set_option maxRecDepth 100000 in
theorem l_Rs_fittest_L16 {fo : Option Nat} {d : Nat} (hd : 5 ≤ d + 1) {o : q_O} {σ' : q_H} {E : (Int32) → q_H → Prop} (v0 : Nat) (hX : ∀ (t : Int32) σ1, E (t) σ1 → q_G (q_rf fo) d m_Rs_fittest o σ' 51 [none, some (.int t), none, none, none] [] σ1)  : ∀ (n : Nat) (v1 : Int32) (v2 : Int32) (v3 : Int32) (σ : q_H), q_J E (f_Rs_fittest_L16 v0 n v1 v2 v3 σ) (q_G (q_rf fo) d m_Rs_fittest o σ' 16 [some (.ref v0), some (.int v1), some (.int v2), some (.int v3), none] [] σ)
  | 0, v1, v2, v3, σ => J_none
  | n + 1, v1, v2, v3, σ => by
    unfold f_Rs_fittest_L16
    refine q_J.step (fun g => j_iload_n rfl rfl (j_iconst (4 : Int32) rfl k32_4 (g))) ?_
    refine J_ite (fun h1 => ?_) (fun h1 => ?_)
    · refine J_bind fun x2 hx2 => ?_
      refine J_bind fun x3 hx3 => ?_
      refine J_bind fun w4 hw4 => ?_
      refine J_cl fun x6 σ5 hσ5 => ?_
      refine q_J.step (fun g => j_icmp_f rfl (cc_ge_f h1) (j_aload_n rfl rfl (j_null rfl (j_aload_n rfl rfl (j_gfr rfl hx2 (j_iload_n rfl rfl (j_aal rfl rfl hx3 (j_v1 [.ref v0, .null, .ref x3] [] rfl rfl rfl rfl rfl rfl hw4 (Or.inl rfl) (t_Rs_countUnlet (by omega) hσ5) (j_istore [some (.ref v0), some (.int v1), some (.int v2), some (.int v3), some (.int x6)] rfl rfl (Or.inr rfl) rfl (j_iload rfl rfl (j_iload_n rfl rfl (g)))))))))))) ?_
      refine J_ite (fun h7 => ?_) (fun h7 => ?_)
      · exact q_J.step (fun g => j_icmp_f rfl (cc_ge_f h7) (j_iload_n rfl rfl (j_istore_n [some (.ref v0), some (.int v3), some (.int v2), some (.int v3), some (.int x6)] rfl rfl (Or.inr rfl) rfl (j_iload rfl rfl (j_istore_n [some (.ref v0), some (.int v3), some (.int x6), some (.int v3), some (.int x6)] rfl rfl (Or.inr rfl) rfl (j_iinc [some (.ref v0), some (.int v3), some (.int x6), some (.int (v3 + (1 : Int32))), some (.int x6)] (v3 + (1 : Int32)) rfl rfl (by rw [k32_1]) (Or.inr rfl) rfl (j_goto rfl (j_weak (l := [some (.ref v0), some (.int v3), some (.int x6), some (.int (v3 + (1 : Int32))), none]) (And.intro (Or.inr rfl) (And.intro (Or.inr rfl) (And.intro (Or.inr rfl) (And.intro (Or.inr rfl) (And.intro (Or.inl rfl) True.intro))))) (g))))))))) (l_Rs_fittest_L16 hd v0 hX n v3 x6 (v3 + (1 : Int32)) σ5)
      exact q_J.step (fun g => j_icmp_t rfl (cc_ge_t h7) (j_iinc [some (.ref v0), some (.int v1), some (.int v2), some (.int (v3 + (1 : Int32))), some (.int x6)] (v3 + (1 : Int32)) rfl rfl (by rw [k32_1]) (Or.inr rfl) rfl (j_goto rfl (j_weak (l := [some (.ref v0), some (.int v1), some (.int v2), some (.int (v3 + (1 : Int32))), none]) (And.intro (Or.inr rfl) (And.intro (Or.inr rfl) (And.intro (Or.inr rfl) (And.intro (Or.inr rfl) (And.intro (Or.inl rfl) True.intro))))) (g))))) (l_Rs_fittest_L16 hd v0 hX n v1 v2 (v3 + (1 : Int32)) σ5)
    exact J_some (fun h => j_icmp_t rfl (cc_ge_t h1) (j_weak (l := [none, some (.int v1), none, none, none]) (And.intro (Or.inl rfl) (And.intro (Or.inr rfl) (And.intro (Or.inl rfl) (And.intro (Or.inl rfl) (And.intro (Or.inr rfl) True.intro))))) (hX _ _ h)))

set_option maxRecDepth 100000 in
theorem b_Rs_fittest {fo : Option Nat} {d : Nat} (hd : 5 ≤ d + 1) {o : q_O} {σ' : q_H} (v0 : Nat) (σ : q_H) : q_J (fun (r : Int32) (σ1 : q_H) => o = .inl (some (.int r)) ∧ σ' = σ1) (f_Rs_fittest v0 σ) (q_G (q_rf fo) d m_Rs_fittest o σ' 0 [some (.ref v0), none, none, none, none] [] σ) := by
  unfold f_Rs_fittest
  refine J_bind fun x1 hx1 => ?_
  refine J_bind fun x2 hx2 => ?_
  refine J_bind fun w3 hw3 => ?_
  refine J_cl fun x5 σ4 hσ4 => ?_
  refine J_sq (fun (t6 : Int32) (σ7 : q_H) => q_G (q_rf fo) d m_Rs_fittest o σ' 51 [none, some (.int t6), none, none, none] [] σ7) (q_J.step (fun g => j_iconst (0 : Int32) rfl k32_0 (j_istore_n [some (.ref v0), some (.int (0 : Int32)), none, none, none] rfl rfl (Or.inr rfl) rfl (j_aload_n rfl rfl (j_null rfl (j_aload_n rfl rfl (j_gfr rfl hx1 (j_iconst (0 : Int32) rfl k32_0 (j_aal rfl rfl hx2 (j_v1 [.ref v0, .null, .ref x2] [] rfl rfl rfl rfl rfl rfl hw3 (Or.inl rfl) (t_Rs_countUnlet (by omega) hσ4) (j_istore_n [some (.ref v0), some (.int (0 : Int32)), some (.int x5), none, none] rfl rfl (Or.inr rfl) rfl (j_iconst (1 : Int32) rfl k32_1 (j_istore_n [some (.ref v0), some (.int (0 : Int32)), some (.int x5), some (.int (1 : Int32)), none] rfl rfl (Or.inr rfl) rfl (g))))))))))))) (l_Rs_fittest_L16 hd v0 (fun _ _ h => h) q_FU (0 : Int32) x5 (1 : Int32) σ4)) (fun t6 σ7 => ?_)
  exact J_some (fun h => j_iload_n rfl rfl (j_iret rfl rfl h))
theorem t_Rs_fittest {fo : Option Nat} {d : Nat} (hd : 5 ≤ d) {v0 : Nat} {σ σ1 : q_H} {r : Int32} (h : f_Rs_fittest v0 σ = some (r, σ1)) : q_Rel (q_rf fo) q_Ms d 149 [.ref v0] σ (.inl (some (.int r))) σ1 := by
  obtain ⟨d, rfl⟩ : ∃ d1, d = d1 + 1 := ⟨d - 1, by omega⟩
  exact q_Rel.of rfl rfl (b_Rs_fittest hd _ σ _ _ h ⟨rfl, rfl⟩)

set_option maxRecDepth 100000 in
theorem b_Rs_apart {fo : Option Nat} {d : Nat} (hd : 5 ≤ d + 1) {o : q_O} {σ' : q_H} (v0 : Nat) (v1 : Int32) (v2 : Int32) (σ : q_H) : q_J (fun (r : Int32) (σ1 : q_H) => o = .inl (some (.int r)) ∧ σ' = σ1) (f_Rs_apart v0 v1 v2 σ) (q_G (q_rf fo) d m_Rs_apart o σ' 0 [some (.ref v0), some (.int v1), some (.int v2)] [] σ) := by
  unfold f_Rs_apart
  refine J_cl fun x2 σ1 hσ1 => ?_
  refine q_J.step (fun g => j_iconst (0 : Int32) rfl k32_0 (j_iload_n rfl rfl (j_iconst (3 : Int32) rfl k32_3 (j_s1 [.int (0 : Int32), .int v1, .int (3 : Int32)] [] rfl rfl rfl rfl rfl (t_Rs_isFrom (by omega) hσ1) (g))))) ?_
  refine J_ite (fun h3 => ?_) (fun h3 => ?_)
  · exact J_some (fun h => j_if_t rfl (cc_eq_t h3) (j_iconst (-1 : Int32) rfl k32_m1 (j_iret rfl rfl h)))
  refine J_cl fun x5 σ4 hσ4 => ?_
  refine q_J.step (fun g => j_if_f rfl (cc_eq_f h3) (j_iconst (0 : Int32) rfl k32_0 (j_iload_n rfl rfl (j_iconst (3 : Int32) rfl k32_3 (j_s1 [.int (0 : Int32), .int v2, .int (3 : Int32)] [] rfl rfl rfl rfl rfl (t_Rs_isFrom (by omega) hσ4) (g)))))) ?_
  refine J_ite (fun h6 => ?_) (fun h6 => ?_)
  · exact J_some (fun h => j_if_f rfl (cc_ne_f h6) (j_iconst (-1 : Int32) rfl k32_m1 (j_iret rfl rfl h)))
  refine J_bind fun x7 hx7 => ?_
  refine J_bind fun x8 hx8 => ?_
  refine J_bind fun x9 hx9 => ?_
  refine J_bind fun x10 hx10 => ?_
  refine J_bind fun w11 hw11 => ?_
  refine J_cl fun x13 σ12 hσ12 => ?_
  exact J_some (fun h => j_if_t rfl (cc_ne_t h6) (j_aload_n rfl rfl (j_aload_n rfl rfl (j_gfr rfl hx7 (j_iload_n rfl rfl (j_aal rfl rfl hx8 (j_aload_n rfl rfl (j_gfr rfl hx9 (j_iload_n rfl rfl (j_aal rfl rfl hx10 (j_v1 [.ref v0, .ref x8, .ref x10] [] rfl rfl rfl rfl rfl rfl hw11 (Or.inl rfl) (t_Rs_countUnlet (by omega) hσ12) (j_iret rfl rfl h))))))))))))
theorem t_Rs_apart {fo : Option Nat} {d : Nat} (hd : 5 ≤ d) {v0 : Nat} {v1 : Int32} {v2 : Int32} {σ σ1 : q_H} {r : Int32} (h : f_Rs_apart v0 v1 v2 σ = some (r, σ1)) : q_Rel (q_rf fo) q_Ms d 150 [.ref v0, .int v1, .int v2] σ (.inl (some (.int r))) σ1 := by
  obtain ⟨d, rfl⟩ : ∃ d1, d = d1 + 1 := ⟨d - 1, by omega⟩
  exact q_Rel.of rfl rfl (b_Rs_apart hd _ _ _ σ _ _ h ⟨rfl, rfl⟩)

set_option maxRecDepth 100000 in
theorem l_Rs_rates_L60 {fo : Option Nat} {d : Nat} (hd : 5 ≤ d + 1) {o : q_O} {σ' : q_H} {E : (Int32) → q_H → Prop} (v0 : Nat) (v1 : Int32) (v2 : Int32) (v3 : Int32) (v4 : Int32) (v5 : Int32) (v7 : Int32) (v8 : Int32) (hX : ∀ (t : Int32) σ1, E (t) σ1 → q_G (q_rf fo) d m_Rs_rates o σ' 124 [none, none, none, none, none, none, none, none, none, some (.int t), none] [] σ1)  : ∀ (n : Nat) (v9 : Int32) (v10 : Int32) (σ : q_H), q_J E (f_Rs_rates_L60 v0 v1 v2 v3 v4 v5 v7 v8 n v9 v10 σ) (q_G (q_rf fo) d m_Rs_rates o σ' 60 [some (.ref v0), some (.int v1), some (.int v2), some (.int v3), some (.int v4), some (.int v5), none, some (.int v7), some (.int v8), some (.int v9), some (.int v10)] [] σ)
  | 0, v9, v10, σ => J_none
  | n + 1, v9, v10, σ => by
    unfold f_Rs_rates_L60
    refine q_J.step (fun g => j_iload rfl rfl (j_iload_n rfl rfl (g))) ?_
    refine J_ite (fun h1 => ?_) (fun h1 => ?_)
    · refine J_bind fun x2 hx2 => ?_
      refine J_bind fun x3 hx3 => ?_
      refine J_bind fun w4 hw4 => ?_
      refine J_cl fun _ σ5 hσ5 => ?_
      refine J_bind fun x7 hx7 => ?_
      refine J_bind fun x8 hx8 => ?_
      refine J_bind fun x9 hx9 => ?_
      refine J_bind fun x10 hx10 => ?_
      refine q_J.step (fun g => j_icmp_f rfl (cc_ge_f h1) (j_aload_n rfl rfl (j_gfr rfl hx2 (j_iload rfl rfl (j_iload_n rfl rfl (j_aload_n rfl rfl (j_gfr rfl hx3 (j_iload_n rfl rfl (j_iload rfl rfl (j_iload rfl rfl (j_v0 [.ref x2, .int v10, .int v2, .ref x3, .int v3, .int v4, .int v5] [] rfl rfl rfl rfl rfl rfl hw4 (Or.inl rfl) (t_Wo_make (by omega) hσ5) (j_iload rfl rfl (j_aload_n rfl rfl (j_gfr rfl hx7 (g))))))))))))))) ?_
      refine q_J.step (fun g => j_gfi rfl hx8 (j_iload rfl rfl (j_imul rfl (j_iload rfl rfl (j_aload_n rfl rfl (j_gfr rfl hx9 (j_gfi rfl hx10 (j_imul rfl (g))))))))) ?_
      refine J_ite (fun h11 => ?_) (fun h11 => ?_)
      · exact q_J.step (fun g => j_icmp_t rfl (cc_lt_t h11) (j_iconst (0 : Int32) rfl k32_0 (j_iadd rfl (j_istore [some (.ref v0), some (.int v1), some (.int v2), some (.int v3), some (.int v4), some (.int v5), none, some (.int v7), some (.int v8), some (.int (v9 + (0 : Int32))), some (.int v10)] rfl rfl (Or.inr rfl) rfl (j_iinc [some (.ref v0), some (.int v1), some (.int v2), some (.int v3), some (.int v4), some (.int v5), none, some (.int v7), some (.int v8), some (.int (v9 + (0 : Int32))), some (.int (v10 + (1 : Int32)))] (v10 + (1 : Int32)) rfl rfl (by rw [k32_1]) (Or.inr rfl) rfl (j_goto rfl (g))))))) (l_Rs_rates_L60 hd v0 v1 v2 v3 v4 v5 v7 v8 hX n (v9 + (0 : Int32)) (v10 + (1 : Int32)) σ5)
      exact q_J.step (fun g => j_icmp_f rfl (cc_lt_f h11) (j_iconst (1 : Int32) rfl k32_1 (j_goto rfl (j_iadd rfl (j_istore [some (.ref v0), some (.int v1), some (.int v2), some (.int v3), some (.int v4), some (.int v5), none, some (.int v7), some (.int v8), some (.int (v9 + (1 : Int32))), some (.int v10)] rfl rfl (Or.inr rfl) rfl (j_iinc [some (.ref v0), some (.int v1), some (.int v2), some (.int v3), some (.int v4), some (.int v5), none, some (.int v7), some (.int v8), some (.int (v9 + (1 : Int32))), some (.int (v10 + (1 : Int32)))] (v10 + (1 : Int32)) rfl rfl (by rw [k32_1]) (Or.inr rfl) rfl (j_goto rfl (g)))))))) (l_Rs_rates_L60 hd v0 v1 v2 v3 v4 v5 v7 v8 hX n (v9 + (1 : Int32)) (v10 + (1 : Int32)) σ5)
    exact J_some (fun h => j_icmp_t rfl (cc_ge_t h1) (j_weak (l := [none, none, none, none, none, none, none, none, none, some (.int v9), none]) (And.intro (Or.inl rfl) (And.intro (Or.inl rfl) (And.intro (Or.inl rfl) (And.intro (Or.inl rfl) (And.intro (Or.inl rfl) (And.intro (Or.inl rfl) (And.intro (Or.inr rfl) (And.intro (Or.inl rfl) (And.intro (Or.inl rfl) (And.intro (Or.inr rfl) (And.intro (Or.inl rfl) True.intro))))))))))) (hX _ _ h)))

set_option maxRecDepth 100000 in
theorem b_Rs_rates {fo : Option Nat} {d : Nat} (hd : 5 ≤ d + 1) {o : q_O} {σ' : q_H} (v0 : Nat) (v1 : Int32) (v2 : Int32) (v3 : Int32) (v4 : Int32) (v5 : Int32) (σ : q_H) : q_J (fun (r : Int32) (σ1 : q_H) => o = .inl (some (.int r)) ∧ σ' = σ1) (f_Rs_rates v0 v1 v2 v3 v4 v5 σ) (q_G (q_rf fo) d m_Rs_rates o σ' 0 [some (.ref v0), some (.int v1), some (.int v2), some (.int v3), some (.int v4), some (.int v5), none, none, none, none, none] [] σ) := by
  unfold f_Rs_rates
  refine J_bind fun w1 hw1 => ?_
  refine J_cl fun x3 σ2 hσ2 => ?_
  refine J_bind fun w4 hw4 => ?_
  refine J_cl fun x6 σ5 hσ5 => ?_
  refine J_cl fun x8 σ7 hσ7 => ?_
  refine q_J.step (fun g => j_aload_n rfl rfl (j_iconst (0 : Int32) rfl k32_0 (j_iconst (0 : Int32) rfl k32_0 (j_v1 [.ref v0, .int (0 : Int32), .int (0 : Int32)] [] rfl rfl rfl rfl rfl rfl hw1 (Or.inl rfl) (t_Rs_gather (by omega) hσ2) (j_astore [some (.ref v0), some (.int v1), some (.int v2), some (.int v3), some (.int v4), some (.int v5), some (.ref x3), none, none, none, none] rfl rfl (Or.inr rfl) rfl (j_aload rfl rfl (j_iconst (0 : Int32) rfl k32_0 (j_v1 [.ref x3, .int (0 : Int32)] [] rfl rfl rfl rfl rfl rfl hw4 (Or.inl rfl) (t_Ty_all (by omega) hσ5) (j_istore [some (.ref v0), some (.int v1), some (.int v2), some (.int v3), some (.int v4), some (.int v5), some (.ref x3), some (.int x6), none, none, none] rfl rfl (Or.inr rfl) rfl (j_iconst (1 : Int32) rfl k32_1 (j_iload_n rfl rfl (j_bipush (20 : Int32) rfl kb_20 (j_s1 [.int (1 : Int32), .int v1, .int (20 : Int32)] [] rfl rfl rfl rfl rfl (t_Rs_isFrom (by omega) hσ7) (g)))))))))))))) ?_
  refine J_ite (fun h9 => ?_) (fun h9 => ?_)
  · exact J_some (fun h => j_if_t rfl (cc_eq_t h9) (j_iconst (-1 : Int32) rfl k32_m1 (j_iret rfl rfl h)))
  refine J_cl fun x11 σ10 hσ10 => ?_
  refine q_J.step (fun g => j_if_f rfl (cc_eq_f h9) (j_iload_n rfl rfl (j_iload_n rfl rfl (j_iload rfl rfl (j_iload rfl rfl (j_s1 [.int v2, .int v3, .int v4, .int v5] [] rfl rfl rfl rfl rfl (t_Rs_isWorld (by omega) hσ10) (g))))))) ?_
  refine J_ite (fun h12 => ?_) (fun h12 => ?_)
  · exact J_some (fun h => j_if_t rfl (cc_eq_t h12) (j_iconst (-1 : Int32) rfl k32_m1 (j_iret rfl rfl h)))
  refine q_J.step (fun g => j_if_f rfl (cc_eq_f h12) (j_iload rfl rfl (g))) ?_
  refine J_ite (fun h13 => ?_) (fun h13 => ?_)
  · exact J_some (fun h => j_if_f rfl (cc_ne_f h13) (j_iconst (-1 : Int32) rfl k32_m1 (j_iret rfl rfl h)))
  refine J_bind fun w14 hw14 => ?_
  refine J_cl fun x16 σ15 hσ15 => ?_
  refine J_sq (fun (t17 : Int32) (σ18 : q_H) => q_G (q_rf fo) d m_Rs_rates o σ' 124 [none, none, none, none, none, none, none, none, none, some (.int t17), none] [] σ18) (q_J.step (fun g => j_if_t rfl (cc_ne_t h13) (j_aload rfl rfl (j_iconst (0 : Int32) rfl k32_0 (j_iconst (0 : Int32) rfl k32_0 (j_v1 [.ref x3, .int (0 : Int32), .int (0 : Int32)] [] rfl rfl rfl rfl rfl rfl hw14 (Or.inl rfl) (t_Ty_picked (by omega) hσ15) (j_istore [some (.ref v0), some (.int v1), some (.int v2), some (.int v3), some (.int v4), some (.int v5), some (.ref x3), some (.int x6), some (.int x16), none, none] rfl rfl (Or.inr rfl) rfl (j_iconst (0 : Int32) rfl k32_0 (j_istore [some (.ref v0), some (.int v1), some (.int v2), some (.int v3), some (.int v4), some (.int v5), some (.ref x3), some (.int x6), some (.int x16), some (.int (0 : Int32)), none] rfl rfl (Or.inr rfl) rfl (j_iconst (0 : Int32) rfl k32_0 (j_istore [some (.ref v0), some (.int v1), some (.int v2), some (.int v3), some (.int v4), some (.int v5), some (.ref x3), some (.int x6), some (.int x16), some (.int (0 : Int32)), some (.int (0 : Int32))] rfl rfl (Or.inr rfl) rfl (j_weak (l := [some (.ref v0), some (.int v1), some (.int v2), some (.int v3), some (.int v4), some (.int v5), none, some (.int x6), some (.int x16), some (.int (0 : Int32)), some (.int (0 : Int32))]) (And.intro (Or.inr rfl) (And.intro (Or.inr rfl) (And.intro (Or.inr rfl) (And.intro (Or.inr rfl) (And.intro (Or.inr rfl) (And.intro (Or.inr rfl) (And.intro (Or.inl rfl) (And.intro (Or.inr rfl) (And.intro (Or.inr rfl) (And.intro (Or.inr rfl) (And.intro (Or.inr rfl) True.intro))))))))))) (g)))))))))))) (l_Rs_rates_L60 hd v0 v1 v2 v3 v4 v5 x6 x16 (fun _ _ h => h) q_FU (0 : Int32) (0 : Int32) σ15)) (fun t17 σ18 => ?_)
  exact J_some (fun h => j_iload rfl rfl (j_iret rfl rfl h))
theorem t_Rs_rates {fo : Option Nat} {d : Nat} (hd : 5 ≤ d) {v0 : Nat} {v1 : Int32} {v2 : Int32} {v3 : Int32} {v4 : Int32} {v5 : Int32} {σ σ1 : q_H} {r : Int32} (h : f_Rs_rates v0 v1 v2 v3 v4 v5 σ = some (r, σ1)) : q_Rel (q_rf fo) q_Ms d 153 [.ref v0, .int v1, .int v2, .int v3, .int v4, .int v5] σ (.inl (some (.int r))) σ1 := by
  obtain ⟨d, rfl⟩ : ∃ d1, d = d1 + 1 := ⟨d - 1, by omega⟩
  exact q_Rel.of rfl rfl (b_Rs_rates hd _ _ _ _ _ _ σ _ _ h ⟨rfl, rfl⟩)

set_option maxRecDepth 100000 in
theorem l_Rs_findReadings_L55 {fo : Option Nat} {d : Nat} (hd : 5 ≤ d + 1) {o : q_O} {σ' : q_H} {E : (Int32) → q_H → Prop} (v0 : Nat) (v1 : Nat) (v3 : Int32) (v4 : Int32) (v5 : Int32) (v6 : Int32) (hX : ∀ (t : Int32) σ1, E (t) σ1 → q_G (q_rf fo) d m_Rs_findReadings o σ' 117 [some (.ref v0), some (.ref v1), some (.int t), some (.int v3), some (.int v4), none, none, none, none] [] σ1)  : ∀ (n : Nat) (v2 : Int32) (v7 : Int32) (σ : q_H), q_J E (f_Rs_findReadings_L55 v0 v1 v3 v4 v5 v6 n v2 v7 σ) (q_G (q_rf fo) d m_Rs_findReadings o σ' 55 [some (.ref v0), some (.ref v1), some (.int v2), some (.int v3), some (.int v4), some (.int v5), some (.int v6), some (.int v7), none] [] σ)
  | 0, v2, v7, σ => J_none
  | n + 1, v2, v7, σ => by
    unfold f_Rs_findReadings_L55
    refine q_J.step (fun g => j_iload rfl rfl (j_bipush (24 : Int32) rfl kb_24 (g))) ?_
    refine J_ite (fun h1 => ?_) (fun h1 => ?_)
    · refine J_bind fun x2 hx2 => ?_
      refine J_bind fun w3 hw3 => ?_
      refine J_cl fun x5 σ4 hσ4 => ?_
      refine q_J.step (fun g => j_icmp_f rfl (cc_ge_f h1) (j_aload_n rfl rfl (j_gfr rfl hx2 (j_iload rfl rfl (j_v1 [.ref x2, .int v7] [] rfl rfl rfl rfl rfl rfl hw3 (Or.inl rfl) (t_Sf_pageOf (by omega) hσ4) (j_astoreO (x := x5) [some (.ref v0), some (.ref v1), some (.int v2), some (.int v3), some (.int v4), some (.int v5), some (.int v6), some (.int v7), some (q_rf x5)] rfl rfl (Or.inr rfl) rfl (j_aloadO (x := x5) rfl rfl (g)))))))) ?_
      cases ha6 : x5 with
      | none =>
        try subst ha6
        exact q_J.step (fun g => j_nul_t rfl (j_iinc [some (.ref v0), some (.ref v1), some (.int v2), some (.int v3), some (.int v4), some (.int v5), some (.int v6), some (.int (v7 + (1 : Int32))), some (.null)] (v7 + (1 : Int32)) rfl rfl (by rw [k32_1]) (Or.inr rfl) rfl (j_goto rfl (j_weak (l := [some (.ref v0), some (.ref v1), some (.int v2), some (.int v3), some (.int v4), some (.int v5), some (.int v6), some (.int (v7 + (1 : Int32))), none]) (And.intro (Or.inr rfl) (And.intro (Or.inr rfl) (And.intro (Or.inr rfl) (And.intro (Or.inr rfl) (And.intro (Or.inr rfl) (And.intro (Or.inr rfl) (And.intro (Or.inr rfl) (And.intro (Or.inr rfl) (And.intro (Or.inl rfl) True.intro))))))))) (g))))) (l_Rs_findReadings_L55 hd v0 v1 v3 v4 v5 v6 hX n v2 (v7 + (1 : Int32)) σ4)
      | some a6 =>
        try subst ha6
        refine J_bind fun x7 hx7 => ?_
        refine J_bind fun w8 hw8 => ?_
        refine J_cl fun x10 σ9 hσ9 => ?_
        refine J_bind fun x11 hx11 => ?_
        refine J_bind fun w12 hw12 => ?_
        refine J_cl fun x14 σ13 hσ13 => ?_
        refine J_bind fun w15 hw15 => ?_
        refine J_cl fun x17 σ16 hσ16 => ?_
        exact q_J.step (fun g => j_nul_f rfl (j_aload_n rfl rfl (j_iload_n rfl rfl (j_iload rfl rfl (j_aload rfl rfl (j_gfr rfl hx7 (j_iload_n rfl rfl (j_iload rfl rfl (j_v1 [.ref x7, .int v3, .int v4] [.int v5, .int v2, .ref v0] rfl rfl rfl rfl rfl rfl hw8 (Or.inl rfl) (t_Ty_picked (by omega) hσ9) (j_isub rfl (j_iload rfl rfl (j_aload rfl rfl (j_gfr rfl hx11 (j_iload rfl rfl (j_v1 [.ref x11, .int v4] [.int v6, .int (v5 - x10), .int v2, .ref v0] rfl rfl rfl rfl rfl rfl hw12 (Or.inl rfl) (t_Ty_all (by omega) hσ13) (j_isub rfl (j_v1 [.ref v0, .int v2, .int (v5 - x10), .int (v6 - x14)] [] rfl rfl rfl rfl rfl rfl hw15 (Or.inl rfl) (t_Rs_addReading (by omega) hσ16) (j_istore_n [some (.ref v0), some (.ref v1), some (.int x17), some (.int v3), some (.int v4), some (.int v5), some (.int v6), some (.int v7), some (.ref a6)] rfl rfl (Or.inr rfl) rfl (j_iinc [some (.ref v0), some (.ref v1), some (.int x17), some (.int v3), some (.int v4), some (.int v5), some (.int v6), some (.int (v7 + (1 : Int32))), some (.ref a6)] (v7 + (1 : Int32)) rfl rfl (by rw [k32_1]) (Or.inr rfl) rfl (j_goto rfl (j_weak (l := [some (.ref v0), some (.ref v1), some (.int x17), some (.int v3), some (.int v4), some (.int v5), some (.int v6), some (.int (v7 + (1 : Int32))), none]) (And.intro (Or.inr rfl) (And.intro (Or.inr rfl) (And.intro (Or.inr rfl) (And.intro (Or.inr rfl) (And.intro (Or.inr rfl) (And.intro (Or.inr rfl) (And.intro (Or.inr rfl) (And.intro (Or.inr rfl) (And.intro (Or.inl rfl) True.intro))))))))) (g)))))))))))))))))))))) (l_Rs_findReadings_L55 hd v0 v1 v3 v4 v5 v6 hX n x17 (v7 + (1 : Int32)) σ16)
    exact J_some (fun h => j_icmp_t rfl (cc_ge_t h1) (j_weak (l := [some (.ref v0), some (.ref v1), some (.int v2), some (.int v3), some (.int v4), none, none, none, none]) (And.intro (Or.inr rfl) (And.intro (Or.inr rfl) (And.intro (Or.inr rfl) (And.intro (Or.inr rfl) (And.intro (Or.inr rfl) (And.intro (Or.inl rfl) (And.intro (Or.inl rfl) (And.intro (Or.inl rfl) (And.intro (Or.inr rfl) True.intro))))))))) (hX _ _ h)))

set_option maxRecDepth 100000 in
theorem l_Rs_findReadings_L19 {fo : Option Nat} {d : Nat} (hd : 5 ≤ d + 1) {o : q_O} {σ' : q_H} {E : (Int32) → q_H → Prop} (v0 : Nat) (v1 : Nat) (v3 : Int32) (hX : ∀ (t : Int32) σ1, E (t) σ1 → q_G (q_rf fo) d m_Rs_findReadings o σ' 123 [some (.ref v0), some (.ref v1), some (.int t), some (.int v3), none, none, none, none, none] [] σ1)  : ∀ (n : Nat) (v2 : Int32) (v4 : Int32) (σ : q_H), q_J E (f_Rs_findReadings_L19 v0 v1 v3 n v2 v4 σ) (q_G (q_rf fo) d m_Rs_findReadings o σ' 19 [some (.ref v0), some (.ref v1), some (.int v2), some (.int v3), some (.int v4), none, none, none, none] [] σ)
  | 0, v2, v4, σ => J_none
  | n + 1, v2, v4, σ => by
    unfold f_Rs_findReadings_L19
    refine q_J.step (fun g => j_iload rfl rfl (j_iconst (3 : Int32) rfl k32_3 (g))) ?_
    refine J_ite (fun h1 => ?_) (fun h1 => ?_)
    · refine J_bind fun w2 hw2 => ?_
      refine J_cl fun x4 σ3 hσ3 => ?_
      refine J_bind fun w5 hw5 => ?_
      refine J_cl fun x7 σ6 hσ6 => ?_
      refine J_bind fun w8 hw8 => ?_
      refine J_cl fun x10 σ9 hσ9 => ?_
      refine J_sq (fun (t11 : Int32) (σ12 : q_H) => q_G (q_rf fo) d m_Rs_findReadings o σ' 117 [some (.ref v0), some (.ref v1), some (.int t11), some (.int v3), some (.int v4), none, none, none, none] [] σ12) (q_J.step (fun g => j_icmp_f rfl (cc_ge_f h1) (j_aload_n rfl rfl (j_iload_n rfl rfl (j_iload rfl rfl (j_v1 [.ref v1, .int v3, .int v4] [] rfl rfl rfl rfl rfl rfl hw2 (Or.inl rfl) (t_Ty_picked (by omega) hσ3) (j_istore [some (.ref v0), some (.ref v1), some (.int v2), some (.int v3), some (.int v4), some (.int x4), none, none, none] rfl rfl (Or.inr rfl) rfl (j_aload_n rfl rfl (j_iload rfl rfl (j_v1 [.ref v1, .int v4] [] rfl rfl rfl rfl rfl rfl hw5 (Or.inl rfl) (t_Ty_all (by omega) hσ6) (j_istore [some (.ref v0), some (.ref v1), some (.int v2), some (.int v3), some (.int v4), some (.int x4), some (.int x7), none, none] rfl rfl (Or.inr rfl) rfl (j_aload_n rfl rfl (j_iload_n rfl rfl (j_iload rfl rfl (j_iload rfl rfl (j_v1 [.ref v0, .int v2, .int x4, .int x7] [] rfl rfl rfl rfl rfl rfl hw8 (Or.inl rfl) (t_Rs_addReading (by omega) hσ9) (j_istore_n [some (.ref v0), some (.ref v1), some (.int x10), some (.int v3), some (.int v4), some (.int x4), some (.int x7), none, none] rfl rfl (Or.inr rfl) rfl (j_iconst (0 : Int32) rfl k32_0 (j_istore [some (.ref v0), some (.ref v1), some (.int x10), some (.int v3), some (.int v4), some (.int x4), some (.int x7), some (.int (0 : Int32)), none] rfl rfl (Or.inr rfl) rfl (g))))))))))))))))))) (l_Rs_findReadings_L55 hd v0 v1 v3 v4 x4 x7 (fun _ _ h => h) q_FU x10 (0 : Int32) σ9)) (fun t11 σ12 => ?_)
      exact q_J.step (fun g => j_iinc [some (.ref v0), some (.ref v1), some (.int t11), some (.int v3), some (.int (v4 + (1 : Int32))), none, none, none, none] (v4 + (1 : Int32)) rfl rfl (by rw [k32_1]) (Or.inr rfl) rfl (j_goto rfl (g))) (l_Rs_findReadings_L19 hd v0 v1 v3 hX n t11 (v4 + (1 : Int32)) σ12)
    exact J_some (fun h => j_icmp_t rfl (cc_ge_t h1) (j_weak (l := [some (.ref v0), some (.ref v1), some (.int v2), some (.int v3), none, none, none, none, none]) (And.intro (Or.inr rfl) (And.intro (Or.inr rfl) (And.intro (Or.inr rfl) (And.intro (Or.inr rfl) (And.intro (Or.inl rfl) (And.intro (Or.inr rfl) (And.intro (Or.inr rfl) (And.intro (Or.inr rfl) (And.intro (Or.inr rfl) True.intro))))))))) (hX _ _ h)))

set_option maxRecDepth 100000 in
theorem l_Rs_findReadings_L11 {fo : Option Nat} {d : Nat} (hd : 5 ≤ d + 1) {o : q_O} {σ' : q_H} {E : (Int32) → q_H → Prop} (v0 : Nat) (v1 : Nat) (hX : ∀ (t : Int32) σ1, E (t) σ1 → q_G (q_rf fo) d m_Rs_findReadings o σ' 129 [none, none, some (.int t), none, none, none, none, none, none] [] σ1)  : ∀ (n : Nat) (v2 : Int32) (v3 : Int32) (σ : q_H), q_J E (f_Rs_findReadings_L11 v0 v1 n v2 v3 σ) (q_G (q_rf fo) d m_Rs_findReadings o σ' 11 [some (.ref v0), some (.ref v1), some (.int v2), some (.int v3), none, none, none, none, none] [] σ)
  | 0, v2, v3, σ => J_none
  | n + 1, v2, v3, σ => by
    unfold f_Rs_findReadings_L11
    refine q_J.step (fun g => j_iload_n rfl rfl (j_iconst (3 : Int32) rfl k32_3 (g))) ?_
    refine J_ite (fun h1 => ?_) (fun h1 => ?_)
    · refine J_sq (fun (t2 : Int32) (σ3 : q_H) => q_G (q_rf fo) d m_Rs_findReadings o σ' 123 [some (.ref v0), some (.ref v1), some (.int t2), some (.int v3), none, none, none, none, none] [] σ3) (q_J.step (fun g => j_icmp_f rfl (cc_ge_f h1) (j_iconst (0 : Int32) rfl k32_0 (j_istore [some (.ref v0), some (.ref v1), some (.int v2), some (.int v3), some (.int (0 : Int32)), none, none, none, none] rfl rfl (Or.inr rfl) rfl (g)))) (l_Rs_findReadings_L19 hd v0 v1 v3 (fun _ _ h => h) q_FU v2 (0 : Int32) σ)) (fun t2 σ3 => ?_)
      exact q_J.step (fun g => j_iinc [some (.ref v0), some (.ref v1), some (.int t2), some (.int (v3 + (1 : Int32))), none, none, none, none, none] (v3 + (1 : Int32)) rfl rfl (by rw [k32_1]) (Or.inr rfl) rfl (j_goto rfl (g))) (l_Rs_findReadings_L11 hd v0 v1 hX n t2 (v3 + (1 : Int32)) σ3)
    exact J_some (fun h => j_icmp_t rfl (cc_ge_t h1) (j_weak (l := [none, none, some (.int v2), none, none, none, none, none, none]) (And.intro (Or.inl rfl) (And.intro (Or.inl rfl) (And.intro (Or.inr rfl) (And.intro (Or.inl rfl) (And.intro (Or.inr rfl) (And.intro (Or.inr rfl) (And.intro (Or.inr rfl) (And.intro (Or.inr rfl) (And.intro (Or.inr rfl) True.intro))))))))) (hX _ _ h)))

set_option maxRecDepth 100000 in
theorem b_Rs_findReadings {fo : Option Nat} {d : Nat} (hd : 5 ≤ d + 1) {o : q_O} {σ' : q_H} (v0 : Nat) (σ : q_H) : q_J (fun (r : Int32) (σ1 : q_H) => o = .inl (some (.int r)) ∧ σ' = σ1) (f_Rs_findReadings v0 σ) (q_G (q_rf fo) d m_Rs_findReadings o σ' 0 [some (.ref v0), none, none, none, none, none, none, none, none] [] σ) := by
  unfold f_Rs_findReadings
  refine J_bind fun w1 hw1 => ?_
  refine J_cl fun x3 σ2 hσ2 => ?_
  refine J_sq (fun (t4 : Int32) (σ5 : q_H) => q_G (q_rf fo) d m_Rs_findReadings o σ' 129 [none, none, some (.int t4), none, none, none, none, none, none] [] σ5) (q_J.step (fun g => j_aload_n rfl rfl (j_iconst (0 : Int32) rfl k32_0 (j_iconst (0 : Int32) rfl k32_0 (j_v1 [.ref v0, .int (0 : Int32), .int (0 : Int32)] [] rfl rfl rfl rfl rfl rfl hw1 (Or.inl rfl) (t_Rs_gather (by omega) hσ2) (j_astore_n [some (.ref v0), some (.ref x3), none, none, none, none, none, none, none] rfl rfl (Or.inr rfl) rfl (j_iconst (0 : Int32) rfl k32_0 (j_istore_n [some (.ref v0), some (.ref x3), some (.int (0 : Int32)), none, none, none, none, none, none] rfl rfl (Or.inr rfl) rfl (j_iconst (0 : Int32) rfl k32_0 (j_istore_n [some (.ref v0), some (.ref x3), some (.int (0 : Int32)), some (.int (0 : Int32)), none, none, none, none, none] rfl rfl (Or.inr rfl) rfl (g)))))))))) (l_Rs_findReadings_L11 hd v0 x3 (fun _ _ h => h) q_FU (0 : Int32) (0 : Int32) σ2)) (fun t4 σ5 => ?_)
  exact J_some (fun h => j_iload_n rfl rfl (j_iret rfl rfl h))
theorem t_Rs_findReadings {fo : Option Nat} {d : Nat} (hd : 5 ≤ d) {v0 : Nat} {σ σ1 : q_H} {r : Int32} (h : f_Rs_findReadings v0 σ = some (r, σ1)) : q_Rel (q_rf fo) q_Ms d 155 [.ref v0] σ (.inl (some (.int r))) σ1 := by
  obtain ⟨d, rfl⟩ : ∃ d1, d = d1 + 1 := ⟨d - 1, by omega⟩
  exact q_Rel.of rfl rfl (b_Rs_findReadings hd _ σ _ _ h ⟨rfl, rfl⟩)

set_option maxRecDepth 100000 in
theorem b_Sr_parseHead {fo : Option Nat} {d : Nat} (hd : 6 ≤ d + 1) {o : q_O} {σ' : q_H} (v0 : Nat) (v1 : Int32) (v2 : Int32) (σ : q_H) : q_J (fun (r : Int32) (σ1 : q_H) => o = .inl (some (.int r)) ∧ σ' = σ1) (f_Sr_parseHead v0 v1 v2 σ) (q_G (q_rf fo) d m_Sr_parseHead o σ' 0 [some (.ref v0), some (.int v1), some (.int v2)] [] σ) := by
  unfold f_Sr_parseHead
  refine J_bind fun x1 hx1 => ?_
  refine J_bind fun x2 hx2 => ?_
  refine q_J.step (fun g => j_aload_n rfl rfl (j_gfr rfl hx1 (j_gfr rfl hx2 (j_iload_n rfl rfl (j_iload_n rfl rfl (g)))))) ?_
  refine J_ite (fun _ => J_none) (fun h4 => ?_)
  refine J_bind fun σ3 hσ3 => ?_
  refine J_bind fun x5 hx5 => ?_
  refine J_bind fun x6 hx6 => ?_
  refine J_bind fun σ7 hσ7 => ?_
  refine J_bind fun x8 hx8 => ?_
  refine J_bind fun x9 hx9 => ?_
  refine J_bind fun σ10 hσ10 => ?_
  refine J_bind fun x11 hx11 => ?_
  refine J_bind fun w12 hw12 => ?_
  refine J_cl fun _ σ13 hσ13 => ?_
  refine J_bind fun w15 hw15 => ?_
  refine J_cl fun x17 σ16 hσ16 => ?_
  refine q_J.step (fun g => j_bas rfl (Decidable.not_not.mp h4) hσ3 (j_aload_n rfl rfl (j_gfr rfl hx5 (j_gfr rfl hx6 (j_iload_n rfl rfl (j_iconst (-1 : Int32) rfl k32_m1 (j_ias rfl hσ7 (j_aload_n rfl rfl (j_gfr rfl hx8 (j_gfr rfl hx9 (j_iload_n rfl rfl (j_iconst (-1 : Int32) rfl k32_m1 (j_ias rfl hσ10 (j_aload_n rfl rfl (g))))))))))))))) ?_
  refine q_J.step (fun g => j_gfr rfl hx11 (j_v0 [.ref x11] [] rfl rfl rfl rfl rfl rfl hw12 (Or.inl rfl) (t_Ta_advance (by omega) hσ13) (j_aload_n rfl rfl (j_v1 [.ref v0] [] rfl rfl rfl rfl rfl rfl hw15 (Or.inl rfl) (t_Sr_isName (by omega) hσ16) (g))))) ?_
  refine J_ite (fun h18 => ?_) (fun h18 => ?_)
  · refine J_bind fun x19 hx19 => ?_
    refine J_bind fun w20 hw20 => ?_
    refine J_cl fun x22 σ21 hσ21 => ?_
    exact J_some (fun h => j_if_f rfl (cc_ne_f h18) (j_aload_n rfl rfl (j_gfr rfl hx19 (j_iconst (1 : Int32) rfl k32_1 (j_v1 [.ref x19, .int (1 : Int32)] [] rfl rfl rfl rfl rfl rfl hw20 (Or.inl rfl) (t_Ta_fault (by omega) hσ21) (j_iret rfl rfl h))))))
  refine J_bind fun x23 hx23 => ?_
  refine J_bind fun x24 hx24 => ?_
  refine J_bind fun x25 hx25 => ?_
  refine J_bind fun w26 hw26 => ?_
  refine J_cl fun x28 σ27 hσ27 => ?_
  refine q_J.step (fun g => j_if_t rfl (cc_ne_t h18) (j_aload_n rfl rfl (j_gfr rfl hx23 (j_aload_n rfl rfl (j_gfr rfl hx24 (j_gfl rfl hx25 (j_v1 [.ref x23, .long x25] [] rfl rfl rfl rfl rfl rfl hw26 (Or.inl rfl) (t_Pa_lineOf (by omega) hσ27) (j_iconst (-1 : Int32) rfl k32_m1 (g))))))))) ?_
  refine J_ite (fun h29 => ?_) (fun h29 => ?_)
  · refine J_bind fun x30 hx30 => ?_
    refine J_bind fun x31 hx31 => ?_
    refine J_bind fun x32 hx32 => ?_
    refine J_bind fun x33 hx33 => ?_
    refine J_bind fun σ34 hσ34 => ?_
    refine J_bind fun x35 hx35 => ?_
    refine J_bind fun w36 hw36 => ?_
    refine J_cl fun _ σ37 hσ37 => ?_
    refine J_bind fun x39 hx39 => ?_
    refine J_bind fun x40 hx40 => ?_
    refine q_J.step (fun g => j_icmp_t rfl (cc_eq_t h29) (j_aload_n rfl rfl (j_gfr rfl hx30 (j_gfr rfl hx31 (j_iload_n rfl rfl (j_aload_n rfl rfl (j_gfr rfl hx32 (j_gfl rfl hx33 (j_las rfl hσ34 (j_aload_n rfl rfl (j_gfr rfl hx35 (j_v0 [.ref x35] [] rfl rfl rfl rfl rfl rfl hw36 (Or.inl rfl) (t_Ta_advance (by omega) hσ37) (j_aload_n rfl rfl (j_gfr rfl hx39 (g))))))))))))))) ?_
    refine q_J.step (fun g => j_gfi rfl hx40 (j_iconst (2 : Int32) rfl k32_2 (g))) ?_
    refine J_ite (fun h41 => ?_) (fun h41 => ?_)
    · refine J_bind fun x42 hx42 => ?_
      refine J_bind fun x43 hx43 => ?_
      refine q_J.step (fun g => j_icmp_t rfl (cc_eq_t h41) (j_aload_n rfl rfl (j_gfr rfl hx42 (j_gfl rfl hx43 (j_ldc2 (120 : Int64) rfl kw_120 (j_lcmp rfl (g))))))) ?_
      refine J_ite (fun h44 => ?_) (fun h44 => ?_)
      · refine J_bind fun x45 hx45 => ?_
        refine J_bind fun w46 hw46 => ?_
        refine J_cl fun x48 σ47 hσ47 => ?_
        exact J_some (fun h => j_if_f rfl (lc_le_f h44) (j_aload_n rfl rfl (j_gfr rfl hx45 (j_iconst (4 : Int32) rfl k32_4 (j_v1 [.ref x45, .int (4 : Int32)] [] rfl rfl rfl rfl rfl rfl hw46 (Or.inl rfl) (t_Ta_fault (by omega) hσ47) (j_iret rfl rfl h))))))
      refine J_bind fun x49 hx49 => ?_
      refine J_bind fun x50 hx50 => ?_
      refine J_bind fun x51 hx51 => ?_
      refine J_bind fun x52 hx52 => ?_
      refine J_bind fun σ53 hσ53 => ?_
      exact J_some (fun h => j_if_t rfl (lc_le_t h44) (j_aload_n rfl rfl (j_gfr rfl hx49 (j_gfr rfl hx50 (j_iload_n rfl rfl (j_aload_n rfl rfl (j_gfr rfl hx51 (j_gfl rfl hx52 (j_l2i rfl (j_ias rfl hσ53 (j_iconst (0 : Int32) rfl k32_0 (j_iret rfl rfl h))))))))))))
    refine J_bind fun x54 hx54 => ?_
    refine J_bind fun w55 hw55 => ?_
    refine J_cl fun x57 σ56 hσ56 => ?_
    exact J_some (fun h => j_icmp_f rfl (cc_eq_f h41) (j_aload_n rfl rfl (j_gfr rfl hx54 (j_iconst (1 : Int32) rfl k32_1 (j_v1 [.ref x54, .int (1 : Int32)] [] rfl rfl rfl rfl rfl rfl hw55 (Or.inl rfl) (t_Ta_fault (by omega) hσ56) (j_iret rfl rfl h))))))
  refine J_bind fun x58 hx58 => ?_
  refine J_bind fun w59 hw59 => ?_
  refine J_cl fun x61 σ60 hσ60 => ?_
  exact J_some (fun h => j_icmp_f rfl (cc_eq_f h29) (j_aload_n rfl rfl (j_gfr rfl hx58 (j_iconst (3 : Int32) rfl k32_3 (j_v1 [.ref x58, .int (3 : Int32)] [] rfl rfl rfl rfl rfl rfl hw59 (Or.inl rfl) (t_Ta_fault (by omega) hσ60) (j_iret rfl rfl h))))))
theorem t_Sr_parseHead {fo : Option Nat} {d : Nat} (hd : 6 ≤ d) {v0 : Nat} {v1 : Int32} {v2 : Int32} {σ σ1 : q_H} {r : Int32} (h : f_Sr_parseHead v0 v1 v2 σ = some (r, σ1)) : q_Rel (q_rf fo) q_Ms d 74 [.ref v0, .int v1, .int v2] σ (.inl (some (.int r))) σ1 := by
  obtain ⟨d, rfl⟩ : ∃ d1, d = d1 + 1 := ⟨d - 1, by omega⟩
  exact q_Rel.of rfl rfl (b_Sr_parseHead hd _ _ _ σ _ _ h ⟨rfl, rfl⟩)

set_option maxRecDepth 100000 in
theorem b_Sr_parseTag {fo : Option Nat} {d : Nat} (hd : 6 ≤ d + 1) {o : q_O} {σ' : q_H} (v0 : Nat) (v1 : Int32) (v2 : Int32) (σ : q_H) : q_J (fun (r : Int32) (σ1 : q_H) => o = .inl (some (.int r)) ∧ σ' = σ1) (f_Sr_parseTag v0 v1 v2 σ) (q_G (q_rf fo) d m_Sr_parseTag o σ' 0 [some (.ref v0), some (.int v1), some (.int v2), none, none] [] σ) := by
  unfold f_Sr_parseTag
  refine J_bind fun x1 hx1 => ?_
  refine J_bind fun x2 hx2 => ?_
  refine J_bind fun x3 hx3 => ?_
  refine J_bind fun x4 hx4 => ?_
  refine q_J.step (fun g => j_aload_n rfl rfl (j_gfr rfl hx1 (j_gfr rfl hx2 (j_iload_n rfl rfl (j_ial rfl hx3 (j_gets (.ref 1) rfl rfl (j_iload_n rfl rfl (j_ial rfl hx4 (j_iand rfl (g)))))))))) ?_
  refine J_ite (fun h5 => ?_) (fun h5 => ?_)
  · refine J_bind fun x6 hx6 => ?_
    refine J_bind fun x7 hx7 => ?_
    refine J_bind fun x8 hx8 => ?_
    refine q_J.step (fun g => j_if_t rfl (cc_eq_t h5) (j_aload_n rfl rfl (j_gfr rfl hx6 (j_gfr rfl hx7 (j_iload_n rfl rfl (j_bal rfl rfl hx8 (g))))))) ?_
    refine J_ite (fun h9 => ?_) (fun h9 => ?_)
    · refine q_J.step (fun g => j_if_f rfl (cc_ne_f h9) (j_iload_n rfl rfl (j_iconst (2 : Int32) rfl k32_2 (g)))) ?_
      refine J_ite (fun h10 => ?_) (fun h10 => ?_)
      · refine q_J.step (fun g => j_icmp_t rfl (cc_eq_t h10) (j_iconst (1 : Int32) rfl k32_1 (j_goto rfl (j_istore_n [some (.ref v0), some (.int v1), some (.int v2), some (.int (1 : Int32)), none] rfl rfl (Or.inr rfl) rfl (j_iload_n rfl rfl (j_iconst (4 : Int32) rfl k32_4 (g))))))) ?_
        refine J_ite (fun h11 => ?_) (fun h11 => ?_)
        · refine J_bind fun x12 hx12 => ?_
          refine J_bind fun x13 hx13 => ?_
          refine J_bind fun x14 hx14 => ?_
          refine q_J.step (fun g => j_icmp_f rfl (cc_ne_f h11) (j_aload_n rfl rfl (j_gfr rfl hx12 (j_gfr rfl hx13 (j_iload_n rfl rfl (j_ial rfl hx14 (j_sipush (128 : Int32) rfl ks_128 (j_iand rfl (g))))))))) ?_
          refine J_sq (fun (t16 : Int32) (σ17 : q_H) => q_G (q_rf fo) d m_Sr_parseTag o σ' 81 [some (.ref v0), some (.int v1), some (.int v2), some (.int (1 : Int32)), none] [.int t16] σ17) ?_ (fun t16 σ17 => ?_)
          · refine J_ite (fun h15 => ?_) (fun h15 => ?_)
            · exact J_some (fun h => j_if_f rfl (cc_ne_f h15) (j_iconst (1 : Int32) rfl k32_1 (j_goto rfl (h))))
            exact J_some (fun h => j_if_t rfl (cc_ne_t h15) (j_iconst (0 : Int32) rfl k32_0 (h)))
          refine q_J.step (fun g => j_istore [some (.ref v0), some (.int v1), some (.int v2), some (.int (1 : Int32)), some (.int t16)] rfl rfl (Or.inr rfl) rfl (j_iload_n rfl rfl (g))) ?_
          refine J_ite (fun h18 => ?_) (fun h18 => ?_)
          · refine q_J.step (fun g => j_if_f rfl (cc_ne_f h18) (j_iload rfl rfl (g))) ?_
            refine J_ite (fun h19 => ?_) (fun h19 => ?_)
            · refine J_bind fun x20 hx20 => ?_
              refine J_bind fun x21 hx21 => ?_
              refine J_bind fun x22 hx22 => ?_
              refine J_bind fun x23 hx23 => ?_
              refine J_bind fun σ24 hσ24 => ?_
              refine q_J.step (fun g => j_if_t rfl (cc_eq_t h19) (j_aload_n rfl rfl (j_gfr rfl hx20 (j_gfr rfl hx21 (j_iload_n rfl rfl (j_dup2 rfl rfl rfl (j_ial rfl hx22 (j_gets (.ref 1) rfl rfl (j_iload_n rfl rfl (j_ial rfl hx23 (j_ior rfl (j_ias rfl hσ24 (j_iload_n rfl rfl (j_iconst (3 : Int32) rfl k32_3 (g))))))))))))))) ?_
              refine J_ite (fun h25 => ?_) (fun h25 => ?_)
              · exact J_some (fun h => j_icmp_f rfl (cc_le_f h25) (j_iconst (0 : Int32) rfl k32_0 (j_iret rfl rfl h)))
              refine J_bind fun x26 hx26 => ?_
              refine J_bind fun w27 hw27 => ?_
              refine J_cl fun _ σ28 hσ28 => ?_
              refine J_bind fun w30 hw30 => ?_
              refine J_cl fun x32 σ31 hσ31 => ?_
              refine q_J.step (fun g => j_icmp_t rfl (cc_le_t h25) (j_aload_n rfl rfl (j_gfr rfl hx26 (j_v0 [.ref x26] [] rfl rfl rfl rfl rfl rfl hw27 (Or.inl rfl) (t_Ta_advance (by omega) hσ28) (j_aload_n rfl rfl (j_v1 [.ref v0] [] rfl rfl rfl rfl rfl rfl hw30 (Or.inl rfl) (t_Sr_isName (by omega) hσ31) (g))))))) ?_
              refine J_ite (fun h33 => ?_) (fun h33 => ?_)
              · refine J_bind fun x34 hx34 => ?_
                refine J_bind fun w35 hw35 => ?_
                refine J_cl fun x37 σ36 hσ36 => ?_
                exact J_some (fun h => j_if_t rfl (cc_eq_t h33) (j_aload_n rfl rfl (j_gfr rfl hx34 (j_iconst (1 : Int32) rfl k32_1 (j_v1 [.ref x34, .int (1 : Int32)] [] rfl rfl rfl rfl rfl rfl hw35 (Or.inl rfl) (t_Ta_fault (by omega) hσ36) (j_iret rfl rfl h))))))
              refine J_bind fun w38 hw38 => ?_
              refine J_cl fun x40 σ39 hσ39 => ?_
              exact J_some (fun h => j_if_f rfl (cc_eq_f h33) (j_aload_n rfl rfl (j_iload_n rfl rfl (j_iload_n rfl rfl (j_v1 [.ref v0, .int v1, .int v2] [] rfl rfl rfl rfl rfl rfl hw38 (Or.inl rfl) (t_Sr_takeName (by omega) hσ39) (j_goto rfl (j_iret rfl rfl h)))))))
            refine J_bind fun x41 hx41 => ?_
            refine J_bind fun w42 hw42 => ?_
            refine J_cl fun x44 σ43 hσ43 => ?_
            exact J_some (fun h => j_if_f rfl (cc_eq_f h19) (j_aload_n rfl rfl (j_gfr rfl hx41 (j_bipush (6 : Int32) rfl kb_6 (j_v1 [.ref x41, .int (6 : Int32)] [] rfl rfl rfl rfl rfl rfl hw42 (Or.inl rfl) (t_Ta_fault (by omega) hσ43) (j_iret rfl rfl h))))))
          refine J_bind fun x45 hx45 => ?_
          refine J_bind fun w46 hw46 => ?_
          refine J_cl fun x48 σ47 hσ47 => ?_
          exact J_some (fun h => j_if_t rfl (cc_ne_t h18) (j_aload_n rfl rfl (j_gfr rfl hx45 (j_bipush (6 : Int32) rfl kb_6 (j_v1 [.ref x45, .int (6 : Int32)] [] rfl rfl rfl rfl rfl rfl hw46 (Or.inl rfl) (t_Ta_fault (by omega) hσ47) (j_iret rfl rfl h))))))
        refine q_J.step (fun g => j_icmp_t rfl (cc_ne_t h11) (j_iconst (0 : Int32) rfl k32_0 (j_istore [some (.ref v0), some (.int v1), some (.int v2), some (.int (1 : Int32)), some (.int (0 : Int32))] rfl rfl (Or.inr rfl) rfl (j_iload_n rfl rfl (g))))) ?_
        refine J_ite (fun h49 => ?_) (fun h49 => ?_)
        · refine q_J.step (fun g => j_if_f rfl (cc_ne_f h49) (j_iload rfl rfl (g))) ?_
          refine J_ite (fun h50 => ?_) (fun h50 => ?_)
          · refine J_bind fun x51 hx51 => ?_
            refine J_bind fun x52 hx52 => ?_
            refine J_bind fun x53 hx53 => ?_
            refine J_bind fun x54 hx54 => ?_
            refine J_bind fun σ55 hσ55 => ?_
            refine q_J.step (fun g => j_if_t rfl (cc_eq_t h50) (j_aload_n rfl rfl (j_gfr rfl hx51 (j_gfr rfl hx52 (j_iload_n rfl rfl (j_dup2 rfl rfl rfl (j_ial rfl hx53 (j_gets (.ref 1) rfl rfl (j_iload_n rfl rfl (j_ial rfl hx54 (j_ior rfl (j_ias rfl hσ55 (j_iload_n rfl rfl (j_iconst (3 : Int32) rfl k32_3 (g))))))))))))))) ?_
            refine J_ite (fun h56 => ?_) (fun h56 => ?_)
            · exact J_some (fun h => j_icmp_f rfl (cc_le_f h56) (j_iconst (0 : Int32) rfl k32_0 (j_iret rfl rfl h)))
            refine J_bind fun x57 hx57 => ?_
            refine J_bind fun w58 hw58 => ?_
            refine J_cl fun _ σ59 hσ59 => ?_
            refine J_bind fun w61 hw61 => ?_
            refine J_cl fun x63 σ62 hσ62 => ?_
            refine q_J.step (fun g => j_icmp_t rfl (cc_le_t h56) (j_aload_n rfl rfl (j_gfr rfl hx57 (j_v0 [.ref x57] [] rfl rfl rfl rfl rfl rfl hw58 (Or.inl rfl) (t_Ta_advance (by omega) hσ59) (j_aload_n rfl rfl (j_v1 [.ref v0] [] rfl rfl rfl rfl rfl rfl hw61 (Or.inl rfl) (t_Sr_isName (by omega) hσ62) (g))))))) ?_
            refine J_ite (fun h64 => ?_) (fun h64 => ?_)
            · refine J_bind fun x65 hx65 => ?_
              refine J_bind fun w66 hw66 => ?_
              refine J_cl fun x68 σ67 hσ67 => ?_
              exact J_some (fun h => j_if_t rfl (cc_eq_t h64) (j_aload_n rfl rfl (j_gfr rfl hx65 (j_iconst (1 : Int32) rfl k32_1 (j_v1 [.ref x65, .int (1 : Int32)] [] rfl rfl rfl rfl rfl rfl hw66 (Or.inl rfl) (t_Ta_fault (by omega) hσ67) (j_iret rfl rfl h))))))
            refine J_bind fun w69 hw69 => ?_
            refine J_cl fun x71 σ70 hσ70 => ?_
            exact J_some (fun h => j_if_f rfl (cc_eq_f h64) (j_aload_n rfl rfl (j_iload_n rfl rfl (j_iload_n rfl rfl (j_v1 [.ref v0, .int v1, .int v2] [] rfl rfl rfl rfl rfl rfl hw69 (Or.inl rfl) (t_Sr_takeName (by omega) hσ70) (j_goto rfl (j_iret rfl rfl h)))))))
          refine J_bind fun x72 hx72 => ?_
          refine J_bind fun w73 hw73 => ?_
          refine J_cl fun x75 σ74 hσ74 => ?_
          exact J_some (fun h => j_if_f rfl (cc_eq_f h50) (j_aload_n rfl rfl (j_gfr rfl hx72 (j_bipush (6 : Int32) rfl kb_6 (j_v1 [.ref x72, .int (6 : Int32)] [] rfl rfl rfl rfl rfl rfl hw73 (Or.inl rfl) (t_Ta_fault (by omega) hσ74) (j_iret rfl rfl h))))))
        refine J_bind fun x76 hx76 => ?_
        refine J_bind fun w77 hw77 => ?_
        refine J_cl fun x79 σ78 hσ78 => ?_
        exact J_some (fun h => j_if_t rfl (cc_ne_t h49) (j_aload_n rfl rfl (j_gfr rfl hx76 (j_bipush (6 : Int32) rfl kb_6 (j_v1 [.ref x76, .int (6 : Int32)] [] rfl rfl rfl rfl rfl rfl hw77 (Or.inl rfl) (t_Ta_fault (by omega) hσ78) (j_iret rfl rfl h))))))
      refine q_J.step (fun g => j_icmp_f rfl (cc_eq_f h10) (j_iload_n rfl rfl (j_iconst (3 : Int32) rfl k32_3 (g)))) ?_
      refine J_sq (fun (t81 : Int32) (σ82 : q_H) => q_G (q_rf fo) d m_Sr_parseTag o σ' 54 [some (.ref v0), some (.int v1), some (.int v2), none, none] [.int t81] σ82) ?_ (fun t81 σ82 => ?_)
      · refine J_ite (fun h80 => ?_) (fun h80 => ?_)
        · exact J_some (fun h => j_icmp_f rfl (cc_ne_f h80) (j_iconst (1 : Int32) rfl k32_1 (j_goto rfl (h))))
        exact J_some (fun h => j_icmp_t rfl (cc_ne_t h80) (j_iconst (0 : Int32) rfl k32_0 (h)))
      refine q_J.step (fun g => j_istore_n [some (.ref v0), some (.int v1), some (.int v2), some (.int t81), none] rfl rfl (Or.inr rfl) rfl (j_iload_n rfl rfl (j_iconst (4 : Int32) rfl k32_4 (g)))) ?_
      refine J_ite (fun h83 => ?_) (fun h83 => ?_)
      · refine J_bind fun x84 hx84 => ?_
        refine J_bind fun x85 hx85 => ?_
        refine J_bind fun x86 hx86 => ?_
        refine q_J.step (fun g => j_icmp_f rfl (cc_ne_f h83) (j_aload_n rfl rfl (j_gfr rfl hx84 (j_gfr rfl hx85 (j_iload_n rfl rfl (j_ial rfl hx86 (j_sipush (128 : Int32) rfl ks_128 (j_iand rfl (g))))))))) ?_
        refine J_sq (fun (t88 : Int32) (σ89 : q_H) => q_G (q_rf fo) d m_Sr_parseTag o σ' 81 [some (.ref v0), some (.int v1), some (.int v2), some (.int t81), none] [.int t88] σ89) ?_ (fun t88 σ89 => ?_)
        · refine J_ite (fun h87 => ?_) (fun h87 => ?_)
          · exact J_some (fun h => j_if_f rfl (cc_ne_f h87) (j_iconst (1 : Int32) rfl k32_1 (j_goto rfl (h))))
          exact J_some (fun h => j_if_t rfl (cc_ne_t h87) (j_iconst (0 : Int32) rfl k32_0 (h)))
        refine q_J.step (fun g => j_istore [some (.ref v0), some (.int v1), some (.int v2), some (.int t81), some (.int t88)] rfl rfl (Or.inr rfl) rfl (j_iload_n rfl rfl (g))) ?_
        refine J_ite (fun h90 => ?_) (fun h90 => ?_)
        · refine q_J.step (fun g => j_if_f rfl (cc_ne_f h90) (j_iload rfl rfl (g))) ?_
          refine J_ite (fun h91 => ?_) (fun h91 => ?_)
          · refine J_bind fun x92 hx92 => ?_
            refine J_bind fun x93 hx93 => ?_
            refine J_bind fun x94 hx94 => ?_
            refine J_bind fun x95 hx95 => ?_
            refine J_bind fun σ96 hσ96 => ?_
            refine q_J.step (fun g => j_if_t rfl (cc_eq_t h91) (j_aload_n rfl rfl (j_gfr rfl hx92 (j_gfr rfl hx93 (j_iload_n rfl rfl (j_dup2 rfl rfl rfl (j_ial rfl hx94 (j_gets (.ref 1) rfl rfl (j_iload_n rfl rfl (j_ial rfl hx95 (j_ior rfl (j_ias rfl hσ96 (j_iload_n rfl rfl (j_iconst (3 : Int32) rfl k32_3 (g))))))))))))))) ?_
            refine J_ite (fun h97 => ?_) (fun h97 => ?_)
            · exact J_some (fun h => j_icmp_f rfl (cc_le_f h97) (j_iconst (0 : Int32) rfl k32_0 (j_iret rfl rfl h)))
            refine J_bind fun x98 hx98 => ?_
            refine J_bind fun w99 hw99 => ?_
            refine J_cl fun _ σ100 hσ100 => ?_
            refine J_bind fun w102 hw102 => ?_
            refine J_cl fun x104 σ103 hσ103 => ?_
            refine q_J.step (fun g => j_icmp_t rfl (cc_le_t h97) (j_aload_n rfl rfl (j_gfr rfl hx98 (j_v0 [.ref x98] [] rfl rfl rfl rfl rfl rfl hw99 (Or.inl rfl) (t_Ta_advance (by omega) hσ100) (j_aload_n rfl rfl (j_v1 [.ref v0] [] rfl rfl rfl rfl rfl rfl hw102 (Or.inl rfl) (t_Sr_isName (by omega) hσ103) (g))))))) ?_
            refine J_ite (fun h105 => ?_) (fun h105 => ?_)
            · refine J_bind fun x106 hx106 => ?_
              refine J_bind fun w107 hw107 => ?_
              refine J_cl fun x109 σ108 hσ108 => ?_
              exact J_some (fun h => j_if_t rfl (cc_eq_t h105) (j_aload_n rfl rfl (j_gfr rfl hx106 (j_iconst (1 : Int32) rfl k32_1 (j_v1 [.ref x106, .int (1 : Int32)] [] rfl rfl rfl rfl rfl rfl hw107 (Or.inl rfl) (t_Ta_fault (by omega) hσ108) (j_iret rfl rfl h))))))
            refine J_bind fun w110 hw110 => ?_
            refine J_cl fun x112 σ111 hσ111 => ?_
            exact J_some (fun h => j_if_f rfl (cc_eq_f h105) (j_aload_n rfl rfl (j_iload_n rfl rfl (j_iload_n rfl rfl (j_v1 [.ref v0, .int v1, .int v2] [] rfl rfl rfl rfl rfl rfl hw110 (Or.inl rfl) (t_Sr_takeName (by omega) hσ111) (j_goto rfl (j_iret rfl rfl h)))))))
          refine J_bind fun x113 hx113 => ?_
          refine J_bind fun w114 hw114 => ?_
          refine J_cl fun x116 σ115 hσ115 => ?_
          exact J_some (fun h => j_if_f rfl (cc_eq_f h91) (j_aload_n rfl rfl (j_gfr rfl hx113 (j_bipush (6 : Int32) rfl kb_6 (j_v1 [.ref x113, .int (6 : Int32)] [] rfl rfl rfl rfl rfl rfl hw114 (Or.inl rfl) (t_Ta_fault (by omega) hσ115) (j_iret rfl rfl h))))))
        refine J_bind fun x117 hx117 => ?_
        refine J_bind fun w118 hw118 => ?_
        refine J_cl fun x120 σ119 hσ119 => ?_
        exact J_some (fun h => j_if_t rfl (cc_ne_t h90) (j_aload_n rfl rfl (j_gfr rfl hx117 (j_bipush (6 : Int32) rfl kb_6 (j_v1 [.ref x117, .int (6 : Int32)] [] rfl rfl rfl rfl rfl rfl hw118 (Or.inl rfl) (t_Ta_fault (by omega) hσ119) (j_iret rfl rfl h))))))
      refine q_J.step (fun g => j_icmp_t rfl (cc_ne_t h83) (j_iconst (0 : Int32) rfl k32_0 (j_istore [some (.ref v0), some (.int v1), some (.int v2), some (.int t81), some (.int (0 : Int32))] rfl rfl (Or.inr rfl) rfl (j_iload_n rfl rfl (g))))) ?_
      refine J_ite (fun h121 => ?_) (fun h121 => ?_)
      · refine q_J.step (fun g => j_if_f rfl (cc_ne_f h121) (j_iload rfl rfl (g))) ?_
        refine J_ite (fun h122 => ?_) (fun h122 => ?_)
        · refine J_bind fun x123 hx123 => ?_
          refine J_bind fun x124 hx124 => ?_
          refine J_bind fun x125 hx125 => ?_
          refine J_bind fun x126 hx126 => ?_
          refine J_bind fun σ127 hσ127 => ?_
          refine q_J.step (fun g => j_if_t rfl (cc_eq_t h122) (j_aload_n rfl rfl (j_gfr rfl hx123 (j_gfr rfl hx124 (j_iload_n rfl rfl (j_dup2 rfl rfl rfl (j_ial rfl hx125 (j_gets (.ref 1) rfl rfl (j_iload_n rfl rfl (j_ial rfl hx126 (j_ior rfl (j_ias rfl hσ127 (j_iload_n rfl rfl (j_iconst (3 : Int32) rfl k32_3 (g))))))))))))))) ?_
          refine J_ite (fun h128 => ?_) (fun h128 => ?_)
          · exact J_some (fun h => j_icmp_f rfl (cc_le_f h128) (j_iconst (0 : Int32) rfl k32_0 (j_iret rfl rfl h)))
          refine J_bind fun x129 hx129 => ?_
          refine J_bind fun w130 hw130 => ?_
          refine J_cl fun _ σ131 hσ131 => ?_
          refine J_bind fun w133 hw133 => ?_
          refine J_cl fun x135 σ134 hσ134 => ?_
          refine q_J.step (fun g => j_icmp_t rfl (cc_le_t h128) (j_aload_n rfl rfl (j_gfr rfl hx129 (j_v0 [.ref x129] [] rfl rfl rfl rfl rfl rfl hw130 (Or.inl rfl) (t_Ta_advance (by omega) hσ131) (j_aload_n rfl rfl (j_v1 [.ref v0] [] rfl rfl rfl rfl rfl rfl hw133 (Or.inl rfl) (t_Sr_isName (by omega) hσ134) (g))))))) ?_
          refine J_ite (fun h136 => ?_) (fun h136 => ?_)
          · refine J_bind fun x137 hx137 => ?_
            refine J_bind fun w138 hw138 => ?_
            refine J_cl fun x140 σ139 hσ139 => ?_
            exact J_some (fun h => j_if_t rfl (cc_eq_t h136) (j_aload_n rfl rfl (j_gfr rfl hx137 (j_iconst (1 : Int32) rfl k32_1 (j_v1 [.ref x137, .int (1 : Int32)] [] rfl rfl rfl rfl rfl rfl hw138 (Or.inl rfl) (t_Ta_fault (by omega) hσ139) (j_iret rfl rfl h))))))
          refine J_bind fun w141 hw141 => ?_
          refine J_cl fun x143 σ142 hσ142 => ?_
          exact J_some (fun h => j_if_f rfl (cc_eq_f h136) (j_aload_n rfl rfl (j_iload_n rfl rfl (j_iload_n rfl rfl (j_v1 [.ref v0, .int v1, .int v2] [] rfl rfl rfl rfl rfl rfl hw141 (Or.inl rfl) (t_Sr_takeName (by omega) hσ142) (j_goto rfl (j_iret rfl rfl h)))))))
        refine J_bind fun x144 hx144 => ?_
        refine J_bind fun w145 hw145 => ?_
        refine J_cl fun x147 σ146 hσ146 => ?_
        exact J_some (fun h => j_if_f rfl (cc_eq_f h122) (j_aload_n rfl rfl (j_gfr rfl hx144 (j_bipush (6 : Int32) rfl kb_6 (j_v1 [.ref x144, .int (6 : Int32)] [] rfl rfl rfl rfl rfl rfl hw145 (Or.inl rfl) (t_Ta_fault (by omega) hσ146) (j_iret rfl rfl h))))))
      refine J_bind fun x148 hx148 => ?_
      refine J_bind fun w149 hw149 => ?_
      refine J_cl fun x151 σ150 hσ150 => ?_
      exact J_some (fun h => j_if_t rfl (cc_ne_t h121) (j_aload_n rfl rfl (j_gfr rfl hx148 (j_bipush (6 : Int32) rfl kb_6 (j_v1 [.ref x148, .int (6 : Int32)] [] rfl rfl rfl rfl rfl rfl hw149 (Or.inl rfl) (t_Ta_fault (by omega) hσ150) (j_iret rfl rfl h))))))
    refine q_J.step (fun g => j_if_t rfl (cc_ne_t h9) (j_iconst (0 : Int32) rfl k32_0 (j_istore_n [some (.ref v0), some (.int v1), some (.int v2), some (.int (0 : Int32)), none] rfl rfl (Or.inr rfl) rfl (j_iload_n rfl rfl (j_iconst (4 : Int32) rfl k32_4 (g)))))) ?_
    refine J_ite (fun h152 => ?_) (fun h152 => ?_)
    · refine J_bind fun x153 hx153 => ?_
      refine J_bind fun x154 hx154 => ?_
      refine J_bind fun x155 hx155 => ?_
      refine q_J.step (fun g => j_icmp_f rfl (cc_ne_f h152) (j_aload_n rfl rfl (j_gfr rfl hx153 (j_gfr rfl hx154 (j_iload_n rfl rfl (j_ial rfl hx155 (j_sipush (128 : Int32) rfl ks_128 (j_iand rfl (g))))))))) ?_
      refine J_sq (fun (t157 : Int32) (σ158 : q_H) => q_G (q_rf fo) d m_Sr_parseTag o σ' 81 [some (.ref v0), some (.int v1), some (.int v2), some (.int (0 : Int32)), none] [.int t157] σ158) ?_ (fun t157 σ158 => ?_)
      · refine J_ite (fun h156 => ?_) (fun h156 => ?_)
        · exact J_some (fun h => j_if_f rfl (cc_ne_f h156) (j_iconst (1 : Int32) rfl k32_1 (j_goto rfl (h))))
        exact J_some (fun h => j_if_t rfl (cc_ne_t h156) (j_iconst (0 : Int32) rfl k32_0 (h)))
      refine q_J.step (fun g => j_istore [some (.ref v0), some (.int v1), some (.int v2), some (.int (0 : Int32)), some (.int t157)] rfl rfl (Or.inr rfl) rfl (j_iload_n rfl rfl (g))) ?_
      refine J_ite (fun h159 => ?_) (fun h159 => ?_)
      · refine q_J.step (fun g => j_if_f rfl (cc_ne_f h159) (j_iload rfl rfl (g))) ?_
        refine J_ite (fun h160 => ?_) (fun h160 => ?_)
        · refine J_bind fun x161 hx161 => ?_
          refine J_bind fun x162 hx162 => ?_
          refine J_bind fun x163 hx163 => ?_
          refine J_bind fun x164 hx164 => ?_
          refine J_bind fun σ165 hσ165 => ?_
          refine q_J.step (fun g => j_if_t rfl (cc_eq_t h160) (j_aload_n rfl rfl (j_gfr rfl hx161 (j_gfr rfl hx162 (j_iload_n rfl rfl (j_dup2 rfl rfl rfl (j_ial rfl hx163 (j_gets (.ref 1) rfl rfl (j_iload_n rfl rfl (j_ial rfl hx164 (j_ior rfl (j_ias rfl hσ165 (j_iload_n rfl rfl (j_iconst (3 : Int32) rfl k32_3 (g))))))))))))))) ?_
          refine J_ite (fun h166 => ?_) (fun h166 => ?_)
          · exact J_some (fun h => j_icmp_f rfl (cc_le_f h166) (j_iconst (0 : Int32) rfl k32_0 (j_iret rfl rfl h)))
          refine J_bind fun x167 hx167 => ?_
          refine J_bind fun w168 hw168 => ?_
          refine J_cl fun _ σ169 hσ169 => ?_
          refine J_bind fun w171 hw171 => ?_
          refine J_cl fun x173 σ172 hσ172 => ?_
          refine q_J.step (fun g => j_icmp_t rfl (cc_le_t h166) (j_aload_n rfl rfl (j_gfr rfl hx167 (j_v0 [.ref x167] [] rfl rfl rfl rfl rfl rfl hw168 (Or.inl rfl) (t_Ta_advance (by omega) hσ169) (j_aload_n rfl rfl (j_v1 [.ref v0] [] rfl rfl rfl rfl rfl rfl hw171 (Or.inl rfl) (t_Sr_isName (by omega) hσ172) (g))))))) ?_
          refine J_ite (fun h174 => ?_) (fun h174 => ?_)
          · refine J_bind fun x175 hx175 => ?_
            refine J_bind fun w176 hw176 => ?_
            refine J_cl fun x178 σ177 hσ177 => ?_
            exact J_some (fun h => j_if_t rfl (cc_eq_t h174) (j_aload_n rfl rfl (j_gfr rfl hx175 (j_iconst (1 : Int32) rfl k32_1 (j_v1 [.ref x175, .int (1 : Int32)] [] rfl rfl rfl rfl rfl rfl hw176 (Or.inl rfl) (t_Ta_fault (by omega) hσ177) (j_iret rfl rfl h))))))
          refine J_bind fun w179 hw179 => ?_
          refine J_cl fun x181 σ180 hσ180 => ?_
          exact J_some (fun h => j_if_f rfl (cc_eq_f h174) (j_aload_n rfl rfl (j_iload_n rfl rfl (j_iload_n rfl rfl (j_v1 [.ref v0, .int v1, .int v2] [] rfl rfl rfl rfl rfl rfl hw179 (Or.inl rfl) (t_Sr_takeName (by omega) hσ180) (j_goto rfl (j_iret rfl rfl h)))))))
        refine J_bind fun x182 hx182 => ?_
        refine J_bind fun w183 hw183 => ?_
        refine J_cl fun x185 σ184 hσ184 => ?_
        exact J_some (fun h => j_if_f rfl (cc_eq_f h160) (j_aload_n rfl rfl (j_gfr rfl hx182 (j_bipush (6 : Int32) rfl kb_6 (j_v1 [.ref x182, .int (6 : Int32)] [] rfl rfl rfl rfl rfl rfl hw183 (Or.inl rfl) (t_Ta_fault (by omega) hσ184) (j_iret rfl rfl h))))))
      refine J_bind fun x186 hx186 => ?_
      refine J_bind fun w187 hw187 => ?_
      refine J_cl fun x189 σ188 hσ188 => ?_
      exact J_some (fun h => j_if_t rfl (cc_ne_t h159) (j_aload_n rfl rfl (j_gfr rfl hx186 (j_bipush (6 : Int32) rfl kb_6 (j_v1 [.ref x186, .int (6 : Int32)] [] rfl rfl rfl rfl rfl rfl hw187 (Or.inl rfl) (t_Ta_fault (by omega) hσ188) (j_iret rfl rfl h))))))
    refine q_J.step (fun g => j_icmp_t rfl (cc_ne_t h152) (j_iconst (0 : Int32) rfl k32_0 (j_istore [some (.ref v0), some (.int v1), some (.int v2), some (.int (0 : Int32)), some (.int (0 : Int32))] rfl rfl (Or.inr rfl) rfl (j_iload_n rfl rfl (g))))) ?_
    refine J_ite (fun h190 => ?_) (fun h190 => ?_)
    · refine q_J.step (fun g => j_if_f rfl (cc_ne_f h190) (j_iload rfl rfl (g))) ?_
      refine J_ite (fun h191 => ?_) (fun h191 => ?_)
      · refine J_bind fun x192 hx192 => ?_
        refine J_bind fun x193 hx193 => ?_
        refine J_bind fun x194 hx194 => ?_
        refine J_bind fun x195 hx195 => ?_
        refine J_bind fun σ196 hσ196 => ?_
        refine q_J.step (fun g => j_if_t rfl (cc_eq_t h191) (j_aload_n rfl rfl (j_gfr rfl hx192 (j_gfr rfl hx193 (j_iload_n rfl rfl (j_dup2 rfl rfl rfl (j_ial rfl hx194 (j_gets (.ref 1) rfl rfl (j_iload_n rfl rfl (j_ial rfl hx195 (j_ior rfl (j_ias rfl hσ196 (j_iload_n rfl rfl (j_iconst (3 : Int32) rfl k32_3 (g))))))))))))))) ?_
        refine J_ite (fun h197 => ?_) (fun h197 => ?_)
        · exact J_some (fun h => j_icmp_f rfl (cc_le_f h197) (j_iconst (0 : Int32) rfl k32_0 (j_iret rfl rfl h)))
        refine J_bind fun x198 hx198 => ?_
        refine J_bind fun w199 hw199 => ?_
        refine J_cl fun _ σ200 hσ200 => ?_
        refine J_bind fun w202 hw202 => ?_
        refine J_cl fun x204 σ203 hσ203 => ?_
        refine q_J.step (fun g => j_icmp_t rfl (cc_le_t h197) (j_aload_n rfl rfl (j_gfr rfl hx198 (j_v0 [.ref x198] [] rfl rfl rfl rfl rfl rfl hw199 (Or.inl rfl) (t_Ta_advance (by omega) hσ200) (j_aload_n rfl rfl (j_v1 [.ref v0] [] rfl rfl rfl rfl rfl rfl hw202 (Or.inl rfl) (t_Sr_isName (by omega) hσ203) (g))))))) ?_
        refine J_ite (fun h205 => ?_) (fun h205 => ?_)
        · refine J_bind fun x206 hx206 => ?_
          refine J_bind fun w207 hw207 => ?_
          refine J_cl fun x209 σ208 hσ208 => ?_
          exact J_some (fun h => j_if_t rfl (cc_eq_t h205) (j_aload_n rfl rfl (j_gfr rfl hx206 (j_iconst (1 : Int32) rfl k32_1 (j_v1 [.ref x206, .int (1 : Int32)] [] rfl rfl rfl rfl rfl rfl hw207 (Or.inl rfl) (t_Ta_fault (by omega) hσ208) (j_iret rfl rfl h))))))
        refine J_bind fun w210 hw210 => ?_
        refine J_cl fun x212 σ211 hσ211 => ?_
        exact J_some (fun h => j_if_f rfl (cc_eq_f h205) (j_aload_n rfl rfl (j_iload_n rfl rfl (j_iload_n rfl rfl (j_v1 [.ref v0, .int v1, .int v2] [] rfl rfl rfl rfl rfl rfl hw210 (Or.inl rfl) (t_Sr_takeName (by omega) hσ211) (j_goto rfl (j_iret rfl rfl h)))))))
      refine J_bind fun x213 hx213 => ?_
      refine J_bind fun w214 hw214 => ?_
      refine J_cl fun x216 σ215 hσ215 => ?_
      exact J_some (fun h => j_if_f rfl (cc_eq_f h191) (j_aload_n rfl rfl (j_gfr rfl hx213 (j_bipush (6 : Int32) rfl kb_6 (j_v1 [.ref x213, .int (6 : Int32)] [] rfl rfl rfl rfl rfl rfl hw214 (Or.inl rfl) (t_Ta_fault (by omega) hσ215) (j_iret rfl rfl h))))))
    refine J_bind fun x217 hx217 => ?_
    refine J_bind fun w218 hw218 => ?_
    refine J_cl fun x220 σ219 hσ219 => ?_
    exact J_some (fun h => j_if_t rfl (cc_ne_t h190) (j_aload_n rfl rfl (j_gfr rfl hx217 (j_bipush (6 : Int32) rfl kb_6 (j_v1 [.ref x217, .int (6 : Int32)] [] rfl rfl rfl rfl rfl rfl hw218 (Or.inl rfl) (t_Ta_fault (by omega) hσ219) (j_iret rfl rfl h))))))
  refine J_bind fun x221 hx221 => ?_
  refine J_bind fun w222 hw222 => ?_
  refine J_cl fun x224 σ223 hσ223 => ?_
  exact J_some (fun h => j_if_f rfl (cc_eq_f h5) (j_aload_n rfl rfl (j_gfr rfl hx221 (j_iconst (3 : Int32) rfl k32_3 (j_v1 [.ref x221, .int (3 : Int32)] [] rfl rfl rfl rfl rfl rfl hw222 (Or.inl rfl) (t_Ta_fault (by omega) hσ223) (j_iret rfl rfl h))))))
theorem t_Sr_parseTag {fo : Option Nat} {d : Nat} (hd : 6 ≤ d) {v0 : Nat} {v1 : Int32} {v2 : Int32} {σ σ1 : q_H} {r : Int32} (h : f_Sr_parseTag v0 v1 v2 σ = some (r, σ1)) : q_Rel (q_rf fo) q_Ms d 77 [.ref v0, .int v1, .int v2] σ (.inl (some (.int r))) σ1 := by
  obtain ⟨d, rfl⟩ : ∃ d1, d = d1 + 1 := ⟨d - 1, by omega⟩
  exact q_Rel.of rfl rfl (b_Sr_parseTag hd _ _ _ σ _ _ h ⟨rfl, rfl⟩)

set_option maxRecDepth 100000 in
theorem l_Rs_init_L128 {fo : Option Nat} {d : Nat} (hd : 6 ≤ d + 1) {o : q_O} {σ' : q_H} {E : (Unit) → q_H → Prop} (v0 : Nat) (hX : ∀ (t : Unit) σ1, E (t) σ1 → q_G (q_rf fo) d m_Rs_init o σ' 152 [some (.ref v0), none] [] σ1)  : ∀ (n : Nat) (v1 : Int32) (σ : q_H), q_J E (f_Rs_init_L128 v0 n v1 σ) (q_G (q_rf fo) d m_Rs_init o σ' 128 [some (.ref v0), some (.int v1)] [] σ)
  | 0, v1, σ => J_none
  | n + 1, v1, σ => by
    unfold f_Rs_init_L128
    refine q_J.step (fun g => j_iload_n rfl rfl (j_iconst (4 : Int32) rfl k32_4 (g))) ?_
    refine J_ite (fun h1 => ?_) (fun h1 => ?_)
    · refine J_bind fun x2 hx2 => ?_
      refine J_ma fun σ3 a4 hσ3 ha4 => ?_
      refine J_cl fun _ σ5 hσ5 => ?_
      refine J_bind fun w8 hw8 => ?_
      refine J_bind fun σ7 hσ7 => ?_
      exact q_J.step (fun g => j_icmp_f rfl (cc_ge_f h1) (j_aload_n rfl rfl (j_gfr rfl hx2 (j_iload_n rfl rfl (j_newk2 [.null, .null, .null, .null, .null, .null] rfl rfl rfl hσ3 ha4 (j_dup rfl rfl (j_i0 [.ref a4] [.ref a4, .int v1, .ref x2] rfl rfl rfl rfl rfl rfl (t_Sf_init (by omega) hσ5) (j_aas rfl (Or.inr (Or.inl ⟨rfl, rfl⟩)) (Or.inr ⟨_, _, rfl, q_ob_some.mp hw8⟩) hσ7 (j_iinc [some (.ref v0), some (.int (v1 + (1 : Int32)))] (v1 + (1 : Int32)) rfl rfl (by rw [k32_1]) (Or.inr rfl) rfl (j_goto rfl (g))))))))))) (l_Rs_init_L128 hd v0 hX n (v1 + (1 : Int32)) σ7)
    exact J_some (fun h => j_icmp_t rfl (cc_ge_t h1) (j_weak (l := [some (.ref v0), none]) (And.intro (Or.inr rfl) (And.intro (Or.inl rfl) True.intro)) (hX _ _ h)))

set_option maxRecDepth 100000 in
theorem l_Rs_init_L154 {fo : Option Nat} {d : Nat} (hd : 6 ≤ d + 1) {o : q_O} {σ' : q_H} {E : (Unit) → q_H → Prop} (v0 : Nat) (hX : ∀ (t : Unit) σ1, E (t) σ1 → q_G (q_rf fo) d m_Rs_init o σ' 183 [none, none] [] σ1)  : ∀ (n : Nat) (v1 : Int32) (σ : q_H), q_J E (f_Rs_init_L154 v0 n v1 σ) (q_G (q_rf fo) d m_Rs_init o σ' 154 [some (.ref v0), some (.int v1)] [] σ)
  | 0, v1, σ => J_none
  | n + 1, v1, σ => by
    unfold f_Rs_init_L154
    refine q_J.step (fun g => j_iload_n rfl rfl (j_iconst (4 : Int32) rfl k32_4 (g))) ?_
    refine J_ite (fun h1 => ?_) (fun h1 => ?_)
    · refine J_bind fun x2 hx2 => ?_
      refine J_ma fun σ3 a4 hσ3 ha4 => ?_
      refine J_ma fun σ5 a6 hσ5 ha6 => ?_
      refine J_cl fun _ σ7 hσ7 => ?_
      refine J_bind fun w10 hw10 => ?_
      refine J_bind fun σ9 hσ9 => ?_
      exact q_J.step (fun g => j_icmp_f rfl (cc_ge_f h1) (j_aload_n rfl rfl (j_gfr rfl hx2 (j_iload_n rfl rfl (j_newk2 [.null, .int 0, .int 0, .null] rfl rfl rfl hσ3 ha4 (j_dup rfl rfl (j_iconst (0 : Int32) rfl k32_0 (j_newk 0 (.int 0) rfl rfl rfl (by decide) (by decide) hσ5 ha6 (j_iconst (0 : Int32) rfl k32_0 (j_iconst (0 : Int32) rfl k32_0 (j_i0 [.ref a4, .ref a6, .int (0 : Int32), .int (0 : Int32)] [.ref a4, .int v1, .ref x2] rfl rfl rfl rfl rfl rfl (t_La_init (by omega) hσ7) (j_aas rfl (Or.inr (Or.inr ⟨rfl, rfl⟩)) (Or.inr ⟨_, _, rfl, q_ob_some.mp hw10⟩) hσ9 (j_iinc [some (.ref v0), some (.int (v1 + (1 : Int32)))] (v1 + (1 : Int32)) rfl rfl (by rw [k32_1]) (Or.inr rfl) rfl (j_goto rfl (g))))))))))))))) (l_Rs_init_L154 hd v0 hX n (v1 + (1 : Int32)) σ9)
    exact J_some (fun h => j_icmp_t rfl (cc_ge_t h1) (j_weak (l := [none, none]) (And.intro (Or.inl rfl) (And.intro (Or.inl rfl) True.intro)) (hX _ _ h)))

set_option maxRecDepth 100000 in
theorem b_Rs_init {fo : Option Nat} {d : Nat} (hd : 6 ≤ d + 1) {o : q_O} {σ' : q_H} (v0 : Nat) (σ : q_H) : q_J (fun (r : Unit) (σ1 : q_H) => o = .inl none ∧ σ' = σ1) (f_Rs_init v0 σ) (q_G (q_rf fo) d m_Rs_init o σ' 0 [some (.ref v0), none] [] σ) := by
  unfold f_Rs_init
  refine J_ma fun σ1 a2 hσ1 ha2 => ?_
  refine J_cl fun _ σ3 hσ3 => ?_
  refine J_bind fun σ5 hσ5 => ?_
  refine J_cl fun x7 σ6 hσ6 => ?_
  refine J_bind fun σ8 hσ8 => ?_
  refine J_cl fun x10 σ9 hσ9 => ?_
  refine J_bind fun σ11 hσ11 => ?_
  refine J_ma fun σ12 a13 hσ12 ha13 => ?_
  refine J_cl fun _ σ14 hσ14 => ?_
  refine J_bind fun σ16 hσ16 => ?_
  refine J_ma fun σ17 a18 hσ17 ha18 => ?_
  refine J_bind fun σ19 hσ19 => ?_
  refine J_ma fun σ20 a21 hσ20 ha21 => ?_
  refine J_bind fun σ22 hσ22 => ?_
  refine J_ma fun σ23 a24 hσ23 ha24 => ?_
  refine J_cl fun _ σ25 hσ25 => ?_
  refine J_bind fun σ27 hσ27 => ?_
  refine J_ma fun σ28 a29 hσ28 ha29 => ?_
  refine J_cl fun _ σ30 hσ30 => ?_
  refine J_bind fun σ32 hσ32 => ?_
  refine J_ma fun σ33 a34 hσ33 ha34 => ?_
  refine J_bind fun σ35 hσ35 => ?_
  refine J_ma fun σ36 a37 hσ36 ha37 => ?_
  refine J_bind fun σ38 hσ38 => ?_
  refine J_ma fun σ39 a40 hσ39 ha40 => ?_
  refine J_cl fun _ σ41 hσ41 => ?_
  refine J_bind fun σ43 hσ43 => ?_
  refine J_ma fun σ44 a45 hσ44 ha45 => ?_
  refine J_bind fun σ46 hσ46 => ?_
  refine J_ma fun σ47 a48 hσ47 ha48 => ?_
  refine J_bind fun σ49 hσ49 => ?_
  refine J_sq (fun (t50 : Unit) (σ51 : q_H) => q_G (q_rf fo) d m_Rs_init o σ' 152 [some (.ref v0), none] [] σ51) (q_J.step (fun g => j_aload_n rfl rfl (j_obj rfl rfl (j_aload_n rfl rfl (j_newk2 [.null, .int 0, .int 0, .int 0, .int 0, .long 0] rfl rfl rfl hσ1 ha2 (j_dup rfl rfl (j_i0 [.ref a2] [.ref a2, .ref v0] rfl rfl rfl rfl rfl rfl (t_Ta_init (by omega) hσ3) (j_putf rfl rfl rfl rfl hσ5 (j_aload_n rfl rfl (j_ldc rfl (j_s1 [.ref 2] [.ref v0] rfl rfl rfl rfl rfl (t_Ta_codesOf (by omega) hσ6) (j_putf rfl rfl rfl rfl hσ8 (j_aload_n rfl rfl (j_ldc rfl (j_s1 [.ref 3] [.ref v0] rfl rfl rfl rfl rfl (t_Ta_codesOf (by omega) hσ9) (j_putf rfl rfl rfl rfl hσ11 (j_aload_n rfl rfl (j_newk2 [.null, .null, .null, .null, .null, .null] rfl rfl rfl hσ12 ha13 (j_dup rfl rfl (j_i0 [.ref a13] [.ref a13, .ref v0] rfl rfl rfl rfl rfl rfl (t_Sf_init (by omega) hσ14) (j_putf rfl rfl rfl rfl hσ16 (j_aload_n rfl rfl (j_iconst (4 : Int32) rfl k32_4 (j_newrk 4 rfl (by decide) (by decide) hσ17 ha18 (j_putf rfl rfl rfl rfl hσ19 (j_aload_n rfl rfl (j_iconst (4 : Int32) rfl k32_4 (j_newk 4 (.int 0) rfl rfl rfl (by decide) (by decide) hσ20 ha21 (j_putf rfl rfl rfl rfl hσ22 (j_aload_n rfl rfl (j_newk2 [.int 0, .null, .null, .null, .null] rfl rfl rfl hσ23 ha24 (j_dup rfl rfl (j_i0 [.ref a24] [.ref a24, .ref v0] rfl rfl rfl rfl rfl rfl (t_Ho_init (by omega) hσ25) (j_putf rfl rfl rfl rfl hσ27 (j_aload_n rfl rfl (j_newk2 [.null, .null, .int 0] rfl rfl rfl hσ28 ha29 (j_dup rfl rfl (j_i0 [.ref a29] [.ref a29, .ref v0] rfl rfl rfl rfl rfl rfl (t_Li_init (by omega) hσ30) (j_putf rfl rfl rfl rfl hσ32 (j_aload_n rfl rfl (j_iconst (4 : Int32) rfl k32_4 (j_newrk 4 rfl (by decide) (by decide) hσ33 ha34 (j_putf rfl rfl rfl rfl hσ35 (j_aload_n rfl rfl (j_bipush (13 : Int32) rfl kb_13 (j_newk 13 (.int 0) rfl rfl rfl (by decide) (by decide) hσ36 ha37 (j_putf rfl rfl rfl rfl hσ38 (j_aload_n rfl rfl (j_newk2 [.int 0, .int 0, .long 0, .int 0, .null, .null, .null, .null] rfl rfl rfl hσ39 ha40 (j_dup rfl rfl (j_i0 [.ref a40] [.ref a40, .ref v0] rfl rfl rfl rfl rfl rfl (t_Wo_init (by omega) hσ41) (j_putf rfl rfl rfl rfl hσ43 (j_aload_n rfl rfl (j_sipush (225 : Int32) rfl ks_225 (j_newk 225 (.int 0) rfl rfl rfl (by decide) (by decide) hσ44 ha45 (j_putf rfl rfl rfl rfl hσ46 (j_aload_n rfl rfl (j_sipush (225 : Int32) rfl ks_225 (j_newk 225 (.int 0) rfl rfl rfl (by decide) (by decide) hσ47 ha48 (j_putf rfl rfl rfl rfl hσ49 (j_iconst (0 : Int32) rfl k32_0 (j_istore_n [some (.ref v0), some (.int (0 : Int32))] rfl rfl (Or.inr rfl) rfl (g)))))))))))))))))))))))))))))))))))))))))))))))))))))))))))))) (l_Rs_init_L128 hd v0 (fun _ _ h => h) q_FU (0 : Int32) σ49)) (fun t50 σ51 => ?_)
  refine J_sq (fun (t52 : Unit) (σ53 : q_H) => q_G (q_rf fo) d m_Rs_init o σ' 183 [none, none] [] σ53) (q_J.step (fun g => j_iconst (0 : Int32) rfl k32_0 (j_istore_n [some (.ref v0), some (.int (0 : Int32))] rfl rfl (Or.inr rfl) rfl (g))) (l_Rs_init_L154 hd v0 (fun _ _ h => h) q_FU (0 : Int32) σ51)) (fun t52 σ53 => ?_)
  exact J_some (fun h => j_vret rfl rfl h)
theorem t_Rs_init {fo : Option Nat} {d : Nat} (hd : 6 ≤ d) {v0 : Nat} {σ σ1 : q_H} {r : Unit} (h : f_Rs_init v0 σ = some (r, σ1)) : q_Rel (q_rf fo) q_Ms d 105 [.ref v0] σ (.inl none) σ1 := by
  obtain ⟨d, rfl⟩ : ∃ d1, d = d1 + 1 := ⟨d - 1, by omega⟩
  exact q_Rel.of rfl rfl (b_Rs_init hd _ σ _ _ h ⟨rfl, rfl⟩)

set_option maxRecDepth 100000 in
theorem l_Rs_next_L4 {fo : Option Nat} {d : Nat} (hd : 6 ≤ d + 1) {o : q_O} {σ' : q_H} {E : (Int32) → q_H → Prop} (v0 : Nat) (hX : ∀ (t : Int32) σ1, E (t) σ1 → q_G (q_rf fo) d m_Rs_next o σ' 43 [none, some (.int t), none] [] σ1)  : ∀ (n : Nat) (v1 : Int32) (v2 : Int32) (σ : q_H), q_J E (f_Rs_next_L4 v0 n v1 v2 σ) (q_G (q_rf fo) d m_Rs_next o σ' 4 [some (.ref v0), some (.int v1), some (.int v2)] [] σ)
  | 0, v1, v2, σ => J_none
  | n + 1, v1, v2, σ => by
    unfold f_Rs_next_L4
    refine q_J.step (fun g => j_iload_n rfl rfl (j_bipush (24 : Int32) rfl kb_24 (g))) ?_
    refine J_ite (fun h1 => ?_) (fun h1 => ?_)
    · refine J_bind fun x2 hx2 => ?_
      refine J_bind fun w3 hw3 => ?_
      refine J_cl fun x5 σ4 hσ4 => ?_
      refine q_J.step (fun g => j_icmp_f rfl (cc_ge_f h1) (j_aload_n rfl rfl (j_gfr rfl hx2 (j_iload_n rfl rfl (j_v1 [.ref x2, .int v2] [] rfl rfl rfl rfl rfl rfl hw3 (Or.inl rfl) (t_Sf_isUnread (by omega) hσ4) (g)))))) ?_
      refine J_ite (fun h6 => ?_) (fun h6 => ?_)
      · exact q_J.step (fun g => j_if_t rfl (cc_eq_t h6) (j_iinc [some (.ref v0), some (.int v1), some (.int (v2 + (1 : Int32)))] (v2 + (1 : Int32)) rfl rfl (by rw [k32_1]) (Or.inr rfl) rfl (j_goto rfl (g)))) (l_Rs_next_L4 hd v0 hX n v1 (v2 + (1 : Int32)) σ4)
      refine q_J.step (fun g => j_if_f rfl (cc_eq_f h6) (j_iload_n rfl rfl (j_iconst (-1 : Int32) rfl k32_m1 (g)))) ?_
      refine J_ite (fun h7 => ?_) (fun h7 => ?_)
      · exact q_J.step (fun g => j_icmp_t rfl (cc_eq_t h7) (j_iload_n rfl rfl (j_istore_n [some (.ref v0), some (.int v2), some (.int v2)] rfl rfl (Or.inr rfl) rfl (j_iinc [some (.ref v0), some (.int v2), some (.int (v2 + (1 : Int32)))] (v2 + (1 : Int32)) rfl rfl (by rw [k32_1]) (Or.inr rfl) rfl (j_goto rfl (g)))))) (l_Rs_next_L4 hd v0 hX n v2 (v2 + (1 : Int32)) σ4)
      refine J_bind fun w8 hw8 => ?_
      refine J_cl fun x10 σ9 hσ9 => ?_
      refine q_J.step (fun g => j_icmp_f rfl (cc_eq_f h7) (j_aload_n rfl rfl (j_iload_n rfl rfl (j_iload_n rfl rfl (j_v1 [.ref v0, .int v2, .int v1] [] rfl rfl rfl rfl rfl rfl hw8 (Or.inl rfl) (t_Rs_isSooner (by omega) hσ9) (g)))))) ?_
      refine J_ite (fun h11 => ?_) (fun h11 => ?_)
      · exact q_J.step (fun g => j_if_t rfl (cc_eq_t h11) (j_iinc [some (.ref v0), some (.int v1), some (.int (v2 + (1 : Int32)))] (v2 + (1 : Int32)) rfl rfl (by rw [k32_1]) (Or.inr rfl) rfl (j_goto rfl (g)))) (l_Rs_next_L4 hd v0 hX n v1 (v2 + (1 : Int32)) σ9)
      exact q_J.step (fun g => j_if_f rfl (cc_eq_f h11) (j_iload_n rfl rfl (j_istore_n [some (.ref v0), some (.int v2), some (.int v2)] rfl rfl (Or.inr rfl) rfl (j_iinc [some (.ref v0), some (.int v2), some (.int (v2 + (1 : Int32)))] (v2 + (1 : Int32)) rfl rfl (by rw [k32_1]) (Or.inr rfl) rfl (j_goto rfl (g)))))) (l_Rs_next_L4 hd v0 hX n v2 (v2 + (1 : Int32)) σ9)
    exact J_some (fun h => j_icmp_t rfl (cc_ge_t h1) (j_weak (l := [none, some (.int v1), none]) (And.intro (Or.inl rfl) (And.intro (Or.inr rfl) (And.intro (Or.inl rfl) True.intro))) (hX _ _ h)))

set_option maxRecDepth 100000 in
theorem b_Rs_next {fo : Option Nat} {d : Nat} (hd : 6 ≤ d + 1) {o : q_O} {σ' : q_H} (v0 : Nat) (σ : q_H) : q_J (fun (r : Int32) (σ1 : q_H) => o = .inl (some (.int r)) ∧ σ' = σ1) (f_Rs_next v0 σ) (q_G (q_rf fo) d m_Rs_next o σ' 0 [some (.ref v0), none, none] [] σ) := by
  unfold f_Rs_next
  refine J_sq (fun (t1 : Int32) (σ2 : q_H) => q_G (q_rf fo) d m_Rs_next o σ' 43 [none, some (.int t1), none] [] σ2) (q_J.step (fun g => j_iconst (-1 : Int32) rfl k32_m1 (j_istore_n [some (.ref v0), some (.int (-1 : Int32)), none] rfl rfl (Or.inr rfl) rfl (j_iconst (0 : Int32) rfl k32_0 (j_istore_n [some (.ref v0), some (.int (-1 : Int32)), some (.int (0 : Int32))] rfl rfl (Or.inr rfl) rfl (g))))) (l_Rs_next_L4 hd v0 (fun _ _ h => h) q_FU (-1 : Int32) (0 : Int32) σ)) (fun t1 σ2 => ?_)
  exact J_some (fun h => j_iload_n rfl rfl (j_iret rfl rfl h))
theorem t_Rs_next {fo : Option Nat} {d : Nat} (hd : 6 ≤ d) {v0 : Nat} {σ σ1 : q_H} {r : Int32} (h : f_Rs_next v0 σ = some (r, σ1)) : q_Rel (q_rf fo) q_Ms d 125 [.ref v0] σ (.inl (some (.int r))) σ1 := by
  obtain ⟨d, rfl⟩ : ∃ d1, d = d1 + 1 := ⟨d - 1, by omega⟩
  exact q_Rel.of rfl rfl (b_Rs_next hd _ σ _ _ h ⟨rfl, rfl⟩)

set_option maxRecDepth 100000 in
theorem b_Rs_house {fo : Option Nat} {d : Nat} (hd : 6 ≤ d + 1) {o : q_O} {σ' : q_H} (v0 : Nat) (v1 : Int32) (v2 : Int32) (σ : q_H) : q_J (fun (r : Int32) (σ1 : q_H) => o = .inl (some (.int r)) ∧ σ' = σ1) (f_Rs_house v0 v1 v2 σ) (q_G (q_rf fo) d m_Rs_house o σ' 0 [some (.ref v0), some (.int v1), some (.int v2)] [] σ) := by
  unfold f_Rs_house
  refine J_bind fun x1 hx1 => ?_
  refine J_bind fun w2 hw2 => ?_
  refine J_cl fun x4 σ3 hσ3 => ?_
  refine q_J.step (fun g => j_aload_n rfl rfl (j_gfr rfl hx1 (j_iload_n rfl rfl (j_v1 [.ref x1, .int v1] [] rfl rfl rfl rfl rfl rfl hw2 (Or.inl rfl) (t_Sf_pageOf (by omega) hσ3) (g))))) ?_
  cases ha5 : x4 with
  | none =>
    try subst ha5
    exact J_some (fun h => j_nul_t rfl (j_iconst (-1 : Int32) rfl k32_m1 (j_iret rfl rfl h)))
  | some a5 =>
    try subst ha5
    refine J_bind fun x6 hx6 => ?_
    refine J_bind fun w7 hw7 => ?_
    refine J_cl fun x9 σ8 hσ8 => ?_
    refine q_J.step (fun g => j_nul_f rfl (j_aload_n rfl rfl (j_gfr rfl hx6 (j_iload_n rfl rfl (j_v1 [.ref x6, .int v2] [] rfl rfl rfl rfl rfl rfl hw7 (Or.inl rfl) (t_Sf_pageOf (by omega) hσ8) (g)))))) ?_
    cases ha10 : x9 with
    | none =>
      try subst ha10
      exact J_some (fun h => j_nul_t rfl (j_iconst (-1 : Int32) rfl k32_m1 (j_iret rfl rfl h)))
    | some a10 =>
      try subst ha10
      refine q_J.step (fun g => j_nul_f rfl (j_iload_n rfl rfl (j_iload_n rfl rfl (g)))) ?_
      refine J_ite (fun h11 => ?_) (fun h11 => ?_)
      · exact J_some (fun h => j_icmp_f rfl (cc_ne_f h11) (j_iconst (-1 : Int32) rfl k32_m1 (j_iret rfl rfl h)))
      refine J_bind fun x12 hx12 => ?_
      refine J_bind fun x13 hx13 => ?_
      refine J_bind fun w14 hw14 => ?_
      refine J_cl fun _ σ15 hσ15 => ?_
      refine J_bind fun x17 hx17 => ?_
      refine J_bind fun x18 hx18 => ?_
      refine J_bind fun x19 hx19 => ?_
      refine J_bind fun x20 hx20 => ?_
      refine J_bind fun x21 hx21 => ?_
      refine J_bind fun x22 hx22 => ?_
      refine q_J.step (fun g => j_icmp_t rfl (cc_ne_t h11) (j_aload_n rfl rfl (j_gfr rfl hx12 (j_aload_n rfl rfl (j_gfr rfl hx13 (j_v0 [.ref x12, .ref x13] [] rfl rfl rfl rfl rfl rfl hw14 (Or.inl rfl) (t_Ho_refresh (by omega) hσ15) (j_aload_n rfl rfl (j_gfr rfl hx17 (j_gfr rfl hx18 (j_iload_n rfl rfl (j_ial rfl hx19 (j_aload_n rfl rfl (j_gfr rfl hx20 (j_gfr rfl hx21 (g))))))))))))))) ?_
      refine q_J.step (fun g => j_iload_n rfl rfl (j_ial rfl hx22 (g))) ?_
      refine J_ite (fun h23 => ?_) (fun h23 => ?_)
      · exact J_some (fun h => j_icmp_f rfl (cc_ne_f h23) (j_iconst (1 : Int32) rfl k32_1 (j_goto rfl (j_iret rfl rfl h))))
      exact J_some (fun h => j_icmp_t rfl (cc_ne_t h23) (j_iconst (0 : Int32) rfl k32_0 (j_iret rfl rfl h)))
theorem t_Rs_house {fo : Option Nat} {d : Nat} (hd : 6 ≤ d) {v0 : Nat} {v1 : Int32} {v2 : Int32} {σ σ1 : q_H} {r : Int32} (h : f_Rs_house v0 v1 v2 σ = some (r, σ1)) : q_Rel (q_rf fo) q_Ms d 129 [.ref v0, .int v1, .int v2] σ (.inl (some (.int r))) σ1 := by
  obtain ⟨d, rfl⟩ : ∃ d1, d = d1 + 1 := ⟨d - 1, by omega⟩
  exact q_Rel.of rfl rfl (b_Rs_house hd _ _ _ σ _ _ h ⟨rfl, rfl⟩)

set_option maxRecDepth 100000 in
theorem l_Rs_leftOfAll_L16 {fo : Option Nat} {d : Nat} (hd : 6 ≤ d + 1) {o : q_O} {σ' : q_H} {E : (Int32) → q_H → Prop} (v0 : Nat) (v1 : Int32) (v2 : Int32) (hX : ∀ (t : Int32) σ1, E (t) σ1 → q_G (q_rf fo) d m_Rs_leftOfAll o σ' 43 [none, none, none, some (.int t), none] [] σ1)  : ∀ (n : Nat) (v3 : Int32) (v4 : Int32) (σ : q_H), q_J E (f_Rs_leftOfAll_L16 v0 v1 v2 n v3 v4 σ) (q_G (q_rf fo) d m_Rs_leftOfAll o σ' 16 [some (.ref v0), some (.int v1), some (.int v2), some (.int v3), some (.int v4)] [] σ)
  | 0, v3, v4, σ => J_none
  | n + 1, v3, v4, σ => by
    unfold f_Rs_leftOfAll_L16
    refine q_J.step (fun g => j_iload rfl rfl (j_bipush (24 : Int32) rfl kb_24 (g))) ?_
    refine J_ite (fun h1 => ?_) (fun h1 => ?_)
    · refine J_bind fun x2 hx2 => ?_
      refine J_bind fun w3 hw3 => ?_
      refine J_cl fun x5 σ4 hσ4 => ?_
      exact q_J.step (fun g => j_icmp_f rfl (cc_ge_f h1) (j_iload_n rfl rfl (j_aload_n rfl rfl (j_gfr rfl hx2 (j_iload rfl rfl (j_iload_n rfl rfl (j_iload_n rfl rfl (j_v1 [.ref x2, .int v4, .int v1, .int v2] [.int v3] rfl rfl rfl rfl rfl rfl hw3 (Or.inl rfl) (t_Ho_leftOf (by omega) hσ4) (j_iadd rfl (j_istore_n [some (.ref v0), some (.int v1), some (.int v2), some (.int (v3 + x5)), some (.int v4)] rfl rfl (Or.inr rfl) rfl (j_iinc [some (.ref v0), some (.int v1), some (.int v2), some (.int (v3 + x5)), some (.int (v4 + (1 : Int32)))] (v4 + (1 : Int32)) rfl rfl (by rw [k32_1]) (Or.inr rfl) rfl (j_goto rfl (g))))))))))))) (l_Rs_leftOfAll_L16 hd v0 v1 v2 hX n (v3 + x5) (v4 + (1 : Int32)) σ4)
    exact J_some (fun h => j_icmp_t rfl (cc_ge_t h1) (j_weak (l := [none, none, none, some (.int v3), none]) (And.intro (Or.inl rfl) (And.intro (Or.inl rfl) (And.intro (Or.inl rfl) (And.intro (Or.inr rfl) (And.intro (Or.inl rfl) True.intro))))) (hX _ _ h)))

set_option maxRecDepth 100000 in
theorem b_Rs_leftOfAll {fo : Option Nat} {d : Nat} (hd : 6 ≤ d + 1) {o : q_O} {σ' : q_H} (v0 : Nat) (v1 : Int32) (v2 : Int32) (σ : q_H) : q_J (fun (r : Int32) (σ1 : q_H) => o = .inl (some (.int r)) ∧ σ' = σ1) (f_Rs_leftOfAll v0 v1 v2 σ) (q_G (q_rf fo) d m_Rs_leftOfAll o σ' 0 [some (.ref v0), some (.int v1), some (.int v2), none, none] [] σ) := by
  unfold f_Rs_leftOfAll
  refine J_bind fun x1 hx1 => ?_
  refine J_bind fun x2 hx2 => ?_
  refine J_bind fun w3 hw3 => ?_
  refine J_cl fun _ σ4 hσ4 => ?_
  refine J_sq (fun (t6 : Int32) (σ7 : q_H) => q_G (q_rf fo) d m_Rs_leftOfAll o σ' 43 [none, none, none, some (.int t6), none] [] σ7) (q_J.step (fun g => j_aload_n rfl rfl (j_gfr rfl hx1 (j_aload_n rfl rfl (j_gfr rfl hx2 (j_v0 [.ref x1, .ref x2] [] rfl rfl rfl rfl rfl rfl hw3 (Or.inl rfl) (t_Ho_refresh (by omega) hσ4) (j_iconst (0 : Int32) rfl k32_0 (j_istore_n [some (.ref v0), some (.int v1), some (.int v2), some (.int (0 : Int32)), none] rfl rfl (Or.inr rfl) rfl (j_iconst (0 : Int32) rfl k32_0 (j_istore [some (.ref v0), some (.int v1), some (.int v2), some (.int (0 : Int32)), some (.int (0 : Int32))] rfl rfl (Or.inr rfl) rfl (g)))))))))) (l_Rs_leftOfAll_L16 hd v0 v1 v2 (fun _ _ h => h) q_FU (0 : Int32) (0 : Int32) σ4)) (fun t6 σ7 => ?_)
  exact J_some (fun h => j_iload_n rfl rfl (j_iret rfl rfl h))
theorem t_Rs_leftOfAll {fo : Option Nat} {d : Nat} (hd : 6 ≤ d) {v0 : Nat} {v1 : Int32} {v2 : Int32} {σ σ1 : q_H} {r : Int32} (h : f_Rs_leftOfAll v0 v1 v2 σ = some (r, σ1)) : q_Rel (q_rf fo) q_Ms d 131 [.ref v0, .int v1, .int v2] σ (.inl (some (.int r))) σ1 := by
  obtain ⟨d, rfl⟩ : ∃ d1, d = d1 + 1 := ⟨d - 1, by omega⟩
  exact q_Rel.of rfl rfl (b_Rs_leftOfAll hd _ _ _ σ _ _ h ⟨rfl, rfl⟩)

set_option maxRecDepth 100000 in
theorem b_Rs_readings {fo : Option Nat} {d : Nat} (hd : 6 ≤ d + 1) {o : q_O} {σ' : q_H} (v0 : Nat) (v1 : Int32) (σ : q_H) : q_J (fun (r : Int32) (σ1 : q_H) => o = .inl (some (.int r)) ∧ σ' = σ1) (f_Rs_readings v0 v1 σ) (q_G (q_rf fo) d m_Rs_readings o σ' 0 [some (.ref v0), some (.int v1), none, none, none] [] σ) := by
  unfold f_Rs_readings
  refine J_bind fun w1 hw1 => ?_
  refine J_cl fun x3 σ2 hσ2 => ?_
  refine q_J.step (fun g => j_aload_n rfl rfl (j_v1 [.ref v0] [] rfl rfl rfl rfl rfl rfl hw1 (Or.inl rfl) (t_Rs_findReadings (by omega) hσ2) (j_istore_n [some (.ref v0), some (.int v1), some (.int x3), none, none] rfl rfl (Or.inr rfl) rfl (j_iload_n rfl rfl (g))))) ?_
  refine J_ite (fun h4 => ?_) (fun h4 => ?_)
  · exact J_some (fun h => j_if_f rfl (cc_ne_f h4) (j_iload_n rfl rfl (j_iret rfl rfl h)))
  refine J_cl fun x6 σ5 hσ5 => ?_
  refine q_J.step (fun g => j_if_t rfl (cc_ne_t h4) (j_iconst (1 : Int32) rfl k32_1 (j_iload_n rfl rfl (j_bipush (6 : Int32) rfl kb_6 (j_s1 [.int (1 : Int32), .int v1, .int (6 : Int32)] [] rfl rfl rfl rfl rfl (t_Rs_isFrom (by omega) hσ5) (g)))))) ?_
  refine J_ite (fun h7 => ?_) (fun h7 => ?_)
  · exact J_some (fun h => j_if_t rfl (cc_eq_t h7) (j_iconst (-1 : Int32) rfl k32_m1 (j_iret rfl rfl h)))
  refine q_J.step (fun g => j_if_f rfl (cc_eq_f h7) (j_iload_n rfl rfl (g))) ?_
  refine J_ite (fun h8 => ?_) (fun h8 => ?_)
  · exact J_some (fun h => j_if_f rfl (cc_ne_f h8) (j_iconst (-1 : Int32) rfl k32_m1 (j_iret rfl rfl h)))
  refine q_J.step (fun g => j_if_t rfl (cc_ne_t h8) (j_aload_n rfl rfl (j_iload_n rfl rfl (j_iload_n rfl rfl (j_iconst (3 : Int32) rfl k32_3 (g)))))) ?_
  refine J_sq (fun (t10 : Int32) (σ11 : q_H) => q_G (q_rf fo) d m_Rs_readings o σ' 39 [some (.ref v0), some (.int v1), none, none, none] [.int t10, .int x3, .ref v0] σ11) ?_ (fun t10 σ11 => ?_)
  · refine J_ite (fun h9 => ?_) (fun h9 => ?_)
    · exact J_some (fun h => j_icmp_f rfl (cc_le_f h9) (j_iconst (1 : Int32) rfl k32_1 (j_goto rfl (j_weak (l := [some (.ref v0), some (.int v1), none, none, none]) (And.intro (Or.inr rfl) (And.intro (Or.inr rfl) (And.intro (Or.inl rfl) (And.intro (Or.inr rfl) (And.intro (Or.inr rfl) True.intro))))) (h)))))
    exact J_some (fun h => j_icmp_t rfl (cc_le_t h9) (j_iconst (0 : Int32) rfl k32_0 (j_weak (l := [some (.ref v0), some (.int v1), none, none, none]) (And.intro (Or.inr rfl) (And.intro (Or.inr rfl) (And.intro (Or.inl rfl) (And.intro (Or.inr rfl) (And.intro (Or.inr rfl) True.intro))))) (h))))
  refine J_bind fun w12 hw12 => ?_
  refine J_cl fun x14 σ13 hσ13 => ?_
  refine q_J.step (fun g => j_v1 [.ref v0, .int x3, .int t10] [] rfl rfl rfl rfl rfl rfl hw12 (Or.inl rfl) (t_Rs_findUtmost (by omega) hσ13) (j_istore_n [some (.ref v0), some (.int v1), none, some (.int x14), none] rfl rfl (Or.inr True.intro) rfl (j_iload_n rfl rfl (j_iconst (1 : Int32) rfl k32_1 (j_isub rfl (j_iconst (3 : Int32) rfl k32_3 (j_irem rfl (by decide) (j_istore [some (.ref v0), some (.int v1), none, some (.int x14), some (.int ((v1 - (1 : Int32)) - (v1 - (1 : Int32)) / (3 : Int32) * (3 : Int32)))] rfl rfl (Or.inr rfl) rfl (j_iload rfl rfl (j_iconst (2 : Int32) rfl k32_2 (g))))))))))) ?_
  refine J_ite (fun h15 => ?_) (fun h15 => ?_)
  · exact J_some (fun h => j_icmp_f rfl (cc_ne_f h15) (j_iload_n rfl rfl (j_goto rfl (j_iret rfl rfl h))))
  refine J_bind fun x16 hx16 => ?_
  refine J_bind fun x17 hx17 => ?_
  refine J_bind fun x18 hx18 => ?_
  refine J_bind fun x19 hx19 => ?_
  refine J_cl fun x21 σ20 hσ20 => ?_
  refine J_cl fun x23 σ22 hσ22 => ?_
  exact J_some (fun h => j_icmp_t rfl (cc_ne_t h15) (j_aload_n rfl rfl (j_gfr rfl hx16 (j_iload_n rfl rfl (j_ial rfl hx17 (j_i2l rfl (j_aload_n rfl rfl (j_gfr rfl hx18 (j_iload_n rfl rfl (j_ial rfl hx19 (j_i2l rfl (j_s1 [.long x17.toInt64, .long x19.toInt64] [] rfl rfl rfl rfl rfl (t_Ra_of (by omega) hσ20) (j_iload rfl rfl (j_s1 [q_rf x21, .int ((v1 - (1 : Int32)) - (v1 - (1 : Int32)) / (3 : Int32) * (3 : Int32))] [] rfl rfl rfl rfl rfl (t_Rs_partOf (by omega) hσ22) (j_iret rfl rfl h)))))))))))))))
theorem t_Rs_readings {fo : Option Nat} {d : Nat} (hd : 6 ≤ d) {v0 : Nat} {v1 : Int32} {σ σ1 : q_H} {r : Int32} (h : f_Rs_readings v0 v1 σ = some (r, σ1)) : q_Rel (q_rf fo) q_Ms d 154 [.ref v0, .int v1] σ (.inl (some (.int r))) σ1 := by
  obtain ⟨d, rfl⟩ : ∃ d1, d = d1 + 1 := ⟨d - 1, by omega⟩
  exact q_Rel.of rfl rfl (b_Rs_readings hd _ _ σ _ _ h ⟨rfl, rfl⟩)

set_option maxRecDepth 100000 in
theorem b_Rs_reading {fo : Option Nat} {d : Nat} (hd : 6 ≤ d + 1) {o : q_O} {σ' : q_H} (v0 : Nat) (v1 : Int32) (v2 : Int32) (σ : q_H) : q_J (fun (r : Int32) (σ1 : q_H) => o = .inl (some (.int r)) ∧ σ' = σ1) (f_Rs_reading v0 v1 v2 σ) (q_G (q_rf fo) d m_Rs_reading o σ' 0 [some (.ref v0), some (.int v1), some (.int v2), none] [] σ) := by
  unfold f_Rs_reading
  refine J_bind fun w1 hw1 => ?_
  refine J_cl fun x3 σ2 hσ2 => ?_
  refine J_cl fun x5 σ4 hσ4 => ?_
  refine q_J.step (fun g => j_aload_n rfl rfl (j_v1 [.ref v0] [] rfl rfl rfl rfl rfl rfl hw1 (Or.inl rfl) (t_Rs_findReadings (by omega) hσ2) (j_istore_n [some (.ref v0), some (.int v1), some (.int v2), some (.int x3)] rfl rfl (Or.inr rfl) rfl (j_iconst (0 : Int32) rfl k32_0 (j_iload_n rfl rfl (j_iload_n rfl rfl (j_iconst (1 : Int32) rfl k32_1 (j_isub rfl (j_s1 [.int (0 : Int32), .int v1, .int (x3 - (1 : Int32))] [] rfl rfl rfl rfl rfl (t_Rs_isFrom (by omega) hσ4) (g)))))))))) ?_
  refine J_ite (fun h6 => ?_) (fun h6 => ?_)
  · exact J_some (fun h => j_if_t rfl (cc_eq_t h6) (j_iconst (-1 : Int32) rfl k32_m1 (j_iret rfl rfl h)))
  refine J_bind fun x7 hx7 => ?_
  refine J_bind fun x8 hx8 => ?_
  refine J_bind fun x9 hx9 => ?_
  refine J_bind fun x10 hx10 => ?_
  refine J_cl fun x12 σ11 hσ11 => ?_
  refine J_cl fun x14 σ13 hσ13 => ?_
  exact J_some (fun h => j_if_f rfl (cc_eq_f h6) (j_aload_n rfl rfl (j_gfr rfl hx7 (j_iload_n rfl rfl (j_ial rfl hx8 (j_i2l rfl (j_aload_n rfl rfl (j_gfr rfl hx9 (j_iload_n rfl rfl (j_ial rfl hx10 (j_i2l rfl (j_s1 [.long x8.toInt64, .long x10.toInt64] [] rfl rfl rfl rfl rfl (t_Ra_of (by omega) hσ11) (j_iload_n rfl rfl (j_s1 [q_rf x12, .int v2] [] rfl rfl rfl rfl rfl (t_Rs_partOf (by omega) hσ13) (j_goto rfl (j_iret rfl rfl h))))))))))))))))
theorem t_Rs_reading {fo : Option Nat} {d : Nat} (hd : 6 ≤ d) {v0 : Nat} {v1 : Int32} {v2 : Int32} {σ σ1 : q_H} {r : Int32} (h : f_Rs_reading v0 v1 v2 σ = some (r, σ1)) : q_Rel (q_rf fo) q_Ms d 158 [.ref v0, .int v1, .int v2] σ (.inl (some (.int r))) σ1 := by
  obtain ⟨d, rfl⟩ : ∃ d1, d = d1 + 1 := ⟨d - 1, by omega⟩
  exact q_Rel.of rfl rfl (b_Rs_reading hd _ _ _ σ _ _ h ⟨rfl, rfl⟩)

set_option maxRecDepth 100000 in
theorem l_Rs_says_L37 {fo : Option Nat} {d : Nat} (hd : 6 ≤ d + 1) {o : q_O} {σ' : q_H} {E : (Int32) → q_H → Prop} (v0 : Nat) (v1 : Int32) (v2 : Int32) (v3 : Int32) (hX : ∀ (t : Int32) σ1, E (t) σ1 → q_G (q_rf fo) d m_Rs_says o σ' 80 [none, none, none, some (.int v3), some (.int t), none] [] σ1)  : ∀ (n : Nat) (v4 : Int32) (v5 : Int32) (σ : q_H), q_J E (f_Rs_says_L37 v0 v1 v2 v3 n v4 v5 σ) (q_G (q_rf fo) d m_Rs_says o σ' 37 [some (.ref v0), some (.int v1), some (.int v2), some (.int v3), some (.int v4), some (.int v5)] [] σ)
  | 0, v4, v5, σ => J_none
  | n + 1, v4, v5, σ => by
    unfold f_Rs_says_L37
    refine q_J.step (fun g => j_iload rfl rfl (j_iload_n rfl rfl (g))) ?_
    refine J_ite (fun h1 => ?_) (fun h1 => ?_)
    · refine J_bind fun x2 hx2 => ?_
      refine J_bind fun x3 hx3 => ?_
      refine J_bind fun x4 hx4 => ?_
      refine J_bind fun x5 hx5 => ?_
      refine q_J.step (fun g => j_icmp_f rfl (cc_ge_f h1) (j_iload rfl rfl (j_aload_n rfl rfl (j_gfr rfl hx2 (j_iload rfl rfl (j_ial rfl hx3 (j_iload_n rfl rfl (j_imul rfl (j_iload_n rfl rfl (j_aload_n rfl rfl (j_gfr rfl hx4 (j_iload rfl rfl (j_ial rfl hx5 (j_imul rfl (g))))))))))))))) ?_
      refine J_ite (fun h6 => ?_) (fun h6 => ?_)
      · exact q_J.step (fun g => j_icmp_t rfl (cc_lt_t h6) (j_iconst (0 : Int32) rfl k32_0 (j_iadd rfl (j_istore [some (.ref v0), some (.int v1), some (.int v2), some (.int v3), some (.int (v4 + (0 : Int32))), some (.int v5)] rfl rfl (Or.inr rfl) rfl (j_iinc [some (.ref v0), some (.int v1), some (.int v2), some (.int v3), some (.int (v4 + (0 : Int32))), some (.int (v5 + (1 : Int32)))] (v5 + (1 : Int32)) rfl rfl (by rw [k32_1]) (Or.inr rfl) rfl (j_goto rfl (g))))))) (l_Rs_says_L37 hd v0 v1 v2 v3 hX n (v4 + (0 : Int32)) (v5 + (1 : Int32)) σ)
      exact q_J.step (fun g => j_icmp_f rfl (cc_lt_f h6) (j_iconst (1 : Int32) rfl k32_1 (j_goto rfl (j_iadd rfl (j_istore [some (.ref v0), some (.int v1), some (.int v2), some (.int v3), some (.int (v4 + (1 : Int32))), some (.int v5)] rfl rfl (Or.inr rfl) rfl (j_iinc [some (.ref v0), some (.int v1), some (.int v2), some (.int v3), some (.int (v4 + (1 : Int32))), some (.int (v5 + (1 : Int32)))] (v5 + (1 : Int32)) rfl rfl (by rw [k32_1]) (Or.inr rfl) rfl (j_goto rfl (g)))))))) (l_Rs_says_L37 hd v0 v1 v2 v3 hX n (v4 + (1 : Int32)) (v5 + (1 : Int32)) σ)
    exact J_some (fun h => j_icmp_t rfl (cc_ge_t h1) (j_weak (l := [none, none, none, some (.int v3), some (.int v4), none]) (And.intro (Or.inl rfl) (And.intro (Or.inl rfl) (And.intro (Or.inl rfl) (And.intro (Or.inr rfl) (And.intro (Or.inr rfl) (And.intro (Or.inl rfl) True.intro)))))) (hX _ _ h)))

set_option maxRecDepth 100000 in
theorem b_Rs_says {fo : Option Nat} {d : Nat} (hd : 6 ≤ d + 1) {o : q_O} {σ' : q_H} (v0 : Nat) (v1 : Int32) (v2 : Int32) (σ : q_H) : q_J (fun (r : Int32) (σ1 : q_H) => o = .inl (some (.int r)) ∧ σ' = σ1) (f_Rs_says v0 v1 v2 σ) (q_G (q_rf fo) d m_Rs_says o σ' 0 [some (.ref v0), some (.int v1), some (.int v2), none, none, none] [] σ) := by
  unfold f_Rs_says
  refine J_bind fun w1 hw1 => ?_
  refine J_cl fun x3 σ2 hσ2 => ?_
  refine J_cl fun x5 σ4 hσ4 => ?_
  refine q_J.step (fun g => j_aload_n rfl rfl (j_v1 [.ref v0] [] rfl rfl rfl rfl rfl rfl hw1 (Or.inl rfl) (t_Rs_findReadings (by omega) hσ2) (j_istore_n [some (.ref v0), some (.int v1), some (.int v2), some (.int x3), none, none] rfl rfl (Or.inr rfl) rfl (j_iconst (0 : Int32) rfl k32_0 (j_iload_n rfl rfl (j_bipush (99 : Int32) rfl kb_99 (j_s1 [.int (0 : Int32), .int v1, .int (99 : Int32)] [] rfl rfl rfl rfl rfl (t_Rs_isFrom (by omega) hσ4) (g)))))))) ?_
  refine J_ite (fun h6 => ?_) (fun h6 => ?_)
  · exact J_some (fun h => j_if_t rfl (cc_eq_t h6) (j_iconst (-1 : Int32) rfl k32_m1 (j_iret rfl rfl h)))
  refine J_cl fun x8 σ7 hσ7 => ?_
  refine q_J.step (fun g => j_if_f rfl (cc_eq_f h6) (j_iconst (1 : Int32) rfl k32_1 (j_iload_n rfl rfl (j_bipush (99 : Int32) rfl kb_99 (j_s1 [.int (1 : Int32), .int v2, .int (99 : Int32)] [] rfl rfl rfl rfl rfl (t_Rs_isFrom (by omega) hσ7) (g)))))) ?_
  refine J_ite (fun h9 => ?_) (fun h9 => ?_)
  · exact J_some (fun h => j_if_t rfl (cc_eq_t h9) (j_iconst (-1 : Int32) rfl k32_m1 (j_iret rfl rfl h)))
  refine q_J.step (fun g => j_if_f rfl (cc_eq_f h9) (j_iload_n rfl rfl (g))) ?_
  refine J_ite (fun h10 => ?_) (fun h10 => ?_)
  · exact J_some (fun h => j_if_f rfl (cc_ne_f h10) (j_iconst (-1 : Int32) rfl k32_m1 (j_iret rfl rfl h)))
  refine J_sq (fun (t11 : Int32) (σ12 : q_H) => q_G (q_rf fo) d m_Rs_says o σ' 80 [none, none, none, some (.int x3), some (.int t11), none] [] σ12) (q_J.step (fun g => j_if_t rfl (cc_ne_t h10) (j_iconst (0 : Int32) rfl k32_0 (j_istore [some (.ref v0), some (.int v1), some (.int v2), some (.int x3), some (.int (0 : Int32)), none] rfl rfl (Or.inr rfl) rfl (j_iconst (0 : Int32) rfl k32_0 (j_istore [some (.ref v0), some (.int v1), some (.int v2), some (.int x3), some (.int (0 : Int32)), some (.int (0 : Int32))] rfl rfl (Or.inr rfl) rfl (g)))))) (l_Rs_says_L37 hd v0 v1 v2 x3 (fun _ _ h => h) q_FU (0 : Int32) (0 : Int32) σ7)) (fun t11 σ12 => ?_)
  refine q_J.step (fun g => j_iload rfl rfl (j_iload_n rfl rfl (g))) ?_
  refine J_ite (fun h13 => ?_) (fun h13 => ?_)
  · exact J_some (fun h => j_icmp_f rfl (cc_ne_f h13) (j_iconst (2 : Int32) rfl k32_2 (j_goto rfl (j_iret rfl rfl h))))
  refine q_J.step (fun g => j_icmp_t rfl (cc_ne_t h13) (j_iload rfl rfl (g))) ?_
  refine J_ite (fun h14 => ?_) (fun h14 => ?_)
  · exact J_some (fun h => j_if_f rfl (cc_le_f h14) (j_iconst (1 : Int32) rfl k32_1 (j_goto rfl (j_iret rfl rfl h))))
  exact J_some (fun h => j_if_t rfl (cc_le_t h14) (j_iconst (0 : Int32) rfl k32_0 (j_iret rfl rfl h)))
theorem t_Rs_says {fo : Option Nat} {d : Nat} (hd : 6 ≤ d) {v0 : Nat} {v1 : Int32} {v2 : Int32} {σ σ1 : q_H} {r : Int32} (h : f_Rs_says v0 v1 v2 σ = some (r, σ1)) : q_Rel (q_rf fo) q_Ms d 159 [.ref v0, .int v1, .int v2] σ (.inl (some (.int r))) σ1 := by
  obtain ⟨d, rfl⟩ : ∃ d1, d = d1 + 1 := ⟨d - 1, by omega⟩
  exact q_Rel.of rfl rfl (b_Rs_says hd _ _ _ σ _ _ h ⟨rfl, rfl⟩)

set_option maxRecDepth 100000 in
theorem b_Rs_count {fo : Option Nat} {d : Nat} (hd : 6 ≤ d + 1) {o : q_O} {σ' : q_H} (v0 : Nat) (v1 : Int32) (σ : q_H) : q_J (fun (r : Int32) (σ1 : q_H) => o = .inl (some (.int r)) ∧ σ' = σ1) (f_Rs_count v0 v1 σ) (q_G (q_rf fo) d m_Rs_count o σ' 0 [some (.ref v0), some (.int v1)] [] σ) := by
  unfold f_Rs_count
  refine q_J.step (fun g => j_iload_n rfl rfl (g)) ?_
  refine J_ite (fun h1 => ?_) (fun h1 => ?_)
  · refine J_bind fun x2 hx2 => ?_
    refine J_bind fun w3 hw3 => ?_
    refine J_cl fun x5 σ4 hσ4 => ?_
    exact J_some (fun h => j_sw 48 rfl (by rw [h1]; decide) (by rw [h1]; decide) (j_aload_n rfl rfl (j_gfr rfl hx2 (j_v1 [.ref x2] [] rfl rfl rfl rfl rfl rfl hw3 (Or.inl rfl) (t_Sf_toldCount (by omega) hσ4) (j_iret rfl rfl h)))))
  refine J_ite (fun h6 => ?_) (fun h6 => ?_)
  · refine J_bind fun x7 hx7 => ?_
    refine J_bind fun w8 hw8 => ?_
    refine J_cl fun x10 σ9 hσ9 => ?_
    exact J_some (fun h => j_sw 56 rfl (by rw [h6]; decide) (by rw [h6]; decide) (j_aload_n rfl rfl (j_gfr rfl hx7 (j_v1 [.ref x7] [] rfl rfl rfl rfl rfl rfl hw8 (Or.inl rfl) (t_Sf_readCount (by omega) hσ9) (j_iret rfl rfl h)))))
  refine J_ite (fun h11 => ?_) (fun h11 => ?_)
  · refine J_bind fun x12 hx12 => ?_
    refine J_bind fun w13 hw13 => ?_
    refine J_cl fun x15 σ14 hσ14 => ?_
    exact J_some (fun h => j_sw 64 rfl (by rw [h11]; decide) (by rw [h11]; decide) (j_aload_n rfl rfl (j_gfr rfl hx12 (j_v1 [.ref x12] [] rfl rfl rfl rfl rfl rfl hw13 (Or.inl rfl) (t_Sf_lineCount (by omega) hσ14) (j_iret rfl rfl h)))))
  refine J_ite (fun h16 => ?_) (fun h16 => ?_)
  · refine J_bind fun x17 hx17 => ?_
    refine J_bind fun x18 hx18 => ?_
    refine J_bind fun w19 hw19 => ?_
    refine J_cl fun _ σ20 hσ20 => ?_
    refine J_bind fun x22 hx22 => ?_
    refine J_bind fun x23 hx23 => ?_
    refine J_bind fun w24 hw24 => ?_
    refine J_cl fun x26 σ25 hσ25 => ?_
    exact J_some (fun h => j_sw 72 rfl (by rw [h16]; decide) (by rw [h16]; decide) (j_aload_n rfl rfl (j_gfr rfl hx17 (j_aload_n rfl rfl (j_gfr rfl hx18 (j_v0 [.ref x17, .ref x18] [] rfl rfl rfl rfl rfl rfl hw19 (Or.inl rfl) (t_Ho_refresh (by omega) hσ20) (j_aload_n rfl rfl (j_gfr rfl hx22 (j_aload_n rfl rfl (j_gfr rfl hx23 (j_v1 [.ref x22, .ref x23] [] rfl rfl rfl rfl rfl rfl hw24 (Or.inl rfl) (t_Ho_countOf (by omega) hσ25) (j_iret rfl rfl h))))))))))))
  refine J_ite (fun h27 => ?_) (fun h27 => ?_)
  · refine J_bind fun x28 hx28 => ?_
    refine J_bind fun x29 hx29 => ?_
    exact J_some (fun h => j_sw 95 rfl (by rw [h27]; decide) (by rw [h27]; decide) (j_aload_n rfl rfl (j_gfr rfl hx28 (j_gfi rfl hx29 (j_iret rfl rfl h)))))
  refine J_ite (fun h30 => ?_) (fun h30 => ?_)
  · refine J_bind fun w31 hw31 => ?_
    refine J_cl fun x33 σ32 hσ32 => ?_
    exact J_some (fun h => j_sw 103 rfl (by rw [h30]; decide) (by rw [h30]; decide) (j_aload_n rfl rfl (j_v1 [.ref v0] [] rfl rfl rfl rfl rfl rfl hw31 (Or.inl rfl) (t_Rs_lawLines (by omega) hσ32) (j_iret rfl rfl h))))
  refine J_ite (fun h34 => ?_) (fun h34 => ?_)
  · refine J_bind fun x35 hx35 => ?_
    refine J_bind fun x36 hx36 => ?_
    exact J_some (fun h => j_sw 108 rfl (by rw [h34]; decide) (by rw [h34]; decide) (j_aload_n rfl rfl (j_gfr rfl hx35 (j_gfi rfl hx36 (j_iret rfl rfl h)))))
  refine J_ite (fun h37 => ?_) (fun h37 => ?_)
  · refine J_bind fun w38 hw38 => ?_
    refine J_cl fun x40 σ39 hσ39 => ?_
    exact J_some (fun h => j_sw 116 rfl (by rw [h37]; decide) (by rw [h37]; decide) (j_aload_n rfl rfl (j_v1 [.ref v0] [] rfl rfl rfl rfl rfl rfl hw38 (Or.inl rfl) (t_Rs_unfreeMarriages (by omega) hσ39) (j_iret rfl rfl h))))
  exact J_some (fun h => j_swd 121 rfl (q_swd_0_7 h1 h6 h11 h16 h27 h30 h34 h37) rfl (j_iconst (-1 : Int32) rfl k32_m1 (j_iret rfl rfl h)))
theorem t_Rs_count {fo : Option Nat} {d : Nat} (hd : 6 ≤ d) {v0 : Nat} {v1 : Int32} {σ σ1 : q_H} {r : Int32} (h : f_Rs_count v0 v1 σ = some (r, σ1)) : q_Rel (q_rf fo) q_Ms d 162 [.ref v0, .int v1] σ (.inl (some (.int r))) σ1 := by
  obtain ⟨d, rfl⟩ : ∃ d1, d = d1 + 1 := ⟨d - 1, by omega⟩
  exact q_Rel.of rfl rfl (b_Rs_count hd _ _ σ _ _ h ⟨rfl, rfl⟩)

set_option maxRecDepth 100000 in
theorem l_Sr_parseTags_L2 {fo : Option Nat} {d : Nat} (hd : 7 ≤ d + 1) {o : q_O} {σ' : q_H} {E : (Int32 ⊕ Unit) → q_H → Prop} (v0 : Nat) (v1 : Int32) (hR : ∀ r σ1, E (.inl r) σ1 → o = .inl (some (.int r)) ∧ σ' = σ1) (hX : ∀ (t : Unit) σ1, E (.inr t) σ1 → q_G (q_rf fo) d m_Sr_parseTags o σ' 82 [some (.ref v0), none, none, none, none] [] σ1)  : ∀ (n : Nat) (v2 : Int32) (σ : q_H), q_J E (f_Sr_parseTags_L2 v0 v1 n v2 σ) (q_G (q_rf fo) d m_Sr_parseTags o σ' 2 [some (.ref v0), some (.int v1), some (.int v2), none, none] [] σ)
  | 0, v2, σ => J_none
  | n + 1, v2, σ => by
    unfold f_Sr_parseTags_L2
    refine q_J.step (fun g => j_iload_n rfl rfl (j_bipush (8 : Int32) rfl kb_8 (g))) ?_
    refine J_ite (fun h1 => ?_) (fun h1 => ?_)
    · exact J_some (fun h => j_icmp_t rfl (cc_gt_t h1) (j_weak (l := [some (.ref v0), none, none, none, none]) (And.intro (Or.inr rfl) (And.intro (Or.inl rfl) (And.intro (Or.inl rfl) (And.intro (Or.inr rfl) (And.intro (Or.inr rfl) True.intro))))) (hX _ _ h)))
    refine J_bind fun x2 hx2 => ?_
    refine J_bind fun w3 hw3 => ?_
    refine J_cl fun _ σ4 hσ4 => ?_
    refine J_bind fun x6 hx6 => ?_
    refine J_bind fun w7 hw7 => ?_
    refine J_cl fun x9 σ8 hσ8 => ?_
    refine q_J.step (fun g => j_icmp_f rfl (cc_gt_f h1) (j_aload_n rfl rfl (j_gfr rfl hx2 (j_v0 [.ref x2] [] rfl rfl rfl rfl rfl rfl hw3 (Or.inl rfl) (t_Ta_advance (by omega) hσ4) (j_aload_n rfl rfl (j_gfr rfl hx6 (j_bipush (59 : Int32) rfl kb_59 (j_v1 [.ref x6, .int (59 : Int32)] [] rfl rfl rfl rfl rfl rfl hw7 (Or.inl rfl) (t_Ta_isSign (by omega) hσ8) (g))))))))) ?_
    refine J_ite (fun h10 => ?_) (fun h10 => ?_)
    · refine J_bind fun x11 hx11 => ?_
      refine J_bind fun x12 hx12 => ?_
      refine J_bind fun w13 hw13 => ?_
      refine J_cl fun x15 σ14 hσ14 => ?_
      refine J_cl fun x17 σ16 hσ16 => ?_
      refine q_J.step (fun g => j_if_t rfl (cc_eq_t h10) (j_aload_n rfl rfl (j_gfr rfl hx11 (j_aload_n rfl rfl (j_gfr rfl hx12 (j_v1 [.ref x11, .ref x12] [] rfl rfl rfl rfl rfl rfl hw13 (Or.inl rfl) (t_Ta_wordIn (by omega) hσ14) (j_istore_n [some (.ref v0), some (.int v1), some (.int v2), some (.int x15), none] rfl rfl (Or.inr rfl) rfl (j_iconst (0 : Int32) rfl k32_0 (j_iload_n rfl rfl (j_bipush (7 : Int32) rfl kb_7 (j_s1 [.int (0 : Int32), .int x15, .int (7 : Int32)] [] rfl rfl rfl rfl rfl (t_Rs_isFrom (by omega) hσ16) (g)))))))))))) ?_
      refine J_ite (fun h18 => ?_) (fun h18 => ?_)
      · refine J_bind fun x19 hx19 => ?_
        refine J_bind fun w20 hw20 => ?_
        refine J_cl fun x22 σ21 hσ21 => ?_
        exact J_some (fun h => j_if_f rfl (cc_ne_f h18) (j_aload_n rfl rfl (j_gfr rfl hx19 (j_iconst (1 : Int32) rfl k32_1 (j_v1 [.ref x19, .int (1 : Int32)] [] rfl rfl rfl rfl rfl rfl hw20 (Or.inl rfl) (t_Ta_fault (by omega) hσ21) (j_iret rfl rfl (hR _ _ h)))))))
      refine J_bind fun w23 hw23 => ?_
      refine J_cl fun x25 σ24 hσ24 => ?_
      refine q_J.step (fun g => j_if_t rfl (cc_ne_t h18) (j_aload_n rfl rfl (j_iload_n rfl rfl (j_iload_n rfl rfl (j_v1 [.ref v0, .int v1, .int x15] [] rfl rfl rfl rfl rfl rfl hw23 (Or.inl rfl) (t_Sr_parseTag (by omega) hσ24) (j_istore [some (.ref v0), some (.int v1), some (.int v2), some (.int x15), some (.int x25)] rfl rfl (Or.inr rfl) rfl (j_iload rfl rfl (g)))))))) ?_
      refine J_ite (fun h26 => ?_) (fun h26 => ?_)
      · exact q_J.step (fun g => j_if_t rfl (cc_eq_t h26) (j_iinc [some (.ref v0), some (.int v1), some (.int (v2 + (1 : Int32))), some (.int x15), some (.int x25)] (v2 + (1 : Int32)) rfl rfl (by rw [k32_1]) (Or.inr rfl) rfl (j_goto rfl (j_weak (l := [some (.ref v0), some (.int v1), some (.int (v2 + (1 : Int32))), none, none]) (And.intro (Or.inr rfl) (And.intro (Or.inr rfl) (And.intro (Or.inr rfl) (And.intro (Or.inl rfl) (And.intro (Or.inl rfl) True.intro))))) (g))))) (l_Sr_parseTags_L2 hd v0 v1 hR hX n (v2 + (1 : Int32)) σ24)
      exact J_some (fun h => j_if_f rfl (cc_eq_f h26) (j_iload rfl rfl (j_iret rfl rfl (hR _ _ h))))
    exact J_some (fun h => j_if_f rfl (cc_eq_f h10) (j_iconst (0 : Int32) rfl k32_0 (j_iret rfl rfl (hR _ _ h))))

set_option maxRecDepth 100000 in
theorem b_Sr_parseTags {fo : Option Nat} {d : Nat} (hd : 7 ≤ d + 1) {o : q_O} {σ' : q_H} (v0 : Nat) (v1 : Int32) (σ : q_H) : q_J (fun (r : Int32) (σ1 : q_H) => o = .inl (some (.int r)) ∧ σ' = σ1) (f_Sr_parseTags v0 v1 σ) (q_G (q_rf fo) d m_Sr_parseTags o σ' 0 [some (.ref v0), some (.int v1), none, none, none] [] σ) := by
  unfold f_Sr_parseTags
  refine J_sq (fun (t0 : Int32 ⊕ Unit) (σ2 : q_H) => match t0 with | .inl r => o = .inl (some (.int r)) ∧ σ' = σ2 | .inr t1 => q_G (q_rf fo) d m_Sr_parseTags o σ' 82 [some (.ref v0), none, none, none, none] [] σ2) (q_J.step (fun g => j_iconst (0 : Int32) rfl k32_0 (j_istore_n [some (.ref v0), some (.int v1), some (.int (0 : Int32)), none, none] rfl rfl (Or.inr rfl) rfl (g))) (l_Sr_parseTags_L2 hd v0 v1 (fun _ _ h => h) (fun _ _ h => h) q_FU (0 : Int32) σ)) (fun t0 σ2 => ?_)
  cases t0 with
  | inl r7 => exact J_some (fun h => h)
  | inr t1 =>
    refine J_bind fun x3 hx3 => ?_
    refine J_bind fun w4 hw4 => ?_
    refine J_cl fun x6 σ5 hσ5 => ?_
    exact J_some (fun h => j_aload_n rfl rfl (j_gfr rfl hx3 (j_iconst (3 : Int32) rfl k32_3 (j_v1 [.ref x3, .int (3 : Int32)] [] rfl rfl rfl rfl rfl rfl hw4 (Or.inl rfl) (t_Ta_fault (by omega) hσ5) (j_iret rfl rfl h)))))
theorem t_Sr_parseTags {fo : Option Nat} {d : Nat} (hd : 7 ≤ d) {v0 : Nat} {v1 : Int32} {σ σ1 : q_H} {r : Int32} (h : f_Sr_parseTags v0 v1 σ = some (r, σ1)) : q_Rel (q_rf fo) q_Ms d 76 [.ref v0, .int v1] σ (.inl (some (.int r))) σ1 := by
  obtain ⟨d, rfl⟩ : ∃ d1, d = d1 + 1 := ⟨d - 1, by omega⟩
  exact q_Rel.of rfl rfl (b_Sr_parseTags hd _ _ σ _ _ h ⟨rfl, rfl⟩)

set_option maxRecDepth 100000 in
theorem b_Rs_left {fo : Option Nat} {d : Nat} (hd : 7 ≤ d + 1) {o : q_O} {σ' : q_H} (v0 : Nat) (v1 : Int32) (v2 : Int32) (v3 : Int32) (σ : q_H) : q_J (fun (r : Int32) (σ1 : q_H) => o = .inl (some (.int r)) ∧ σ' = σ1) (f_Rs_left v0 v1 v2 v3 σ) (q_G (q_rf fo) d m_Rs_left o σ' 0 [some (.ref v0), some (.int v1), some (.int v2), some (.int v3)] [] σ) := by
  unfold f_Rs_left
  refine J_cl fun x2 σ1 hσ1 => ?_
  refine q_J.step (fun g => j_iconst (0 : Int32) rfl k32_0 (j_iload_n rfl rfl (j_iconst (1 : Int32) rfl k32_1 (j_s1 [.int (0 : Int32), .int v2, .int (1 : Int32)] [] rfl rfl rfl rfl rfl (t_Rs_isFrom (by omega) hσ1) (g))))) ?_
  refine J_ite (fun h3 => ?_) (fun h3 => ?_)
  · exact J_some (fun h => j_if_t rfl (cc_eq_t h3) (j_iconst (-1 : Int32) rfl k32_m1 (j_iret rfl rfl h)))
  refine J_cl fun x5 σ4 hσ4 => ?_
  refine q_J.step (fun g => j_if_f rfl (cc_eq_f h3) (j_iconst (0 : Int32) rfl k32_0 (j_iload_n rfl rfl (j_iconst (1 : Int32) rfl k32_1 (j_s1 [.int (0 : Int32), .int v3, .int (1 : Int32)] [] rfl rfl rfl rfl rfl (t_Rs_isFrom (by omega) hσ4) (g)))))) ?_
  refine J_ite (fun h6 => ?_) (fun h6 => ?_)
  · exact J_some (fun h => j_if_f rfl (cc_ne_f h6) (j_iconst (-1 : Int32) rfl k32_m1 (j_iret rfl rfl h)))
  refine q_J.step (fun g => j_if_t rfl (cc_ne_t h6) (j_iload_n rfl rfl (j_iconst (-1 : Int32) rfl k32_m1 (g)))) ?_
  refine J_ite (fun h7 => ?_) (fun h7 => ?_)
  · refine J_bind fun w8 hw8 => ?_
    refine J_cl fun x10 σ9 hσ9 => ?_
    exact J_some (fun h => j_icmp_f rfl (cc_ne_f h7) (j_aload_n rfl rfl (j_iload_n rfl rfl (j_iload_n rfl rfl (j_v1 [.ref v0, .int v2, .int v3] [] rfl rfl rfl rfl rfl rfl hw8 (Or.inl rfl) (t_Rs_leftOfAll (by omega) hσ9) (j_iret rfl rfl h))))))
  refine J_bind fun x11 hx11 => ?_
  refine J_bind fun w12 hw12 => ?_
  refine J_cl fun x14 σ13 hσ13 => ?_
  refine q_J.step (fun g => j_icmp_t rfl (cc_ne_t h7) (j_aload_n rfl rfl (j_gfr rfl hx11 (j_iload_n rfl rfl (j_v1 [.ref x11, .int v1] [] rfl rfl rfl rfl rfl rfl hw12 (Or.inl rfl) (t_Sf_pageOf (by omega) hσ13) (g)))))) ?_
  cases ha15 : x14 with
  | none =>
    try subst ha15
    exact J_some (fun h => j_non_f rfl (j_iconst (-1 : Int32) rfl k32_m1 (j_iret rfl rfl h)))
  | some a15 =>
    try subst ha15
    refine J_bind fun x16 hx16 => ?_
    refine J_bind fun x17 hx17 => ?_
    refine J_bind fun w18 hw18 => ?_
    refine J_cl fun _ σ19 hσ19 => ?_
    refine J_bind fun x21 hx21 => ?_
    refine J_bind fun w22 hw22 => ?_
    refine J_cl fun x24 σ23 hσ23 => ?_
    exact J_some (fun h => j_non_t rfl (j_aload_n rfl rfl (j_gfr rfl hx16 (j_aload_n rfl rfl (j_gfr rfl hx17 (j_v0 [.ref x16, .ref x17] [] rfl rfl rfl rfl rfl rfl hw18 (Or.inl rfl) (t_Ho_refresh (by omega) hσ19) (j_aload_n rfl rfl (j_gfr rfl hx21 (j_iload_n rfl rfl (j_iload_n rfl rfl (j_iload_n rfl rfl (j_v1 [.ref x21, .int v1, .int v2, .int v3] [] rfl rfl rfl rfl rfl rfl hw22 (Or.inl rfl) (t_Ho_leftOf (by omega) hσ23) (j_iret rfl rfl h)))))))))))))
theorem t_Rs_left {fo : Option Nat} {d : Nat} (hd : 7 ≤ d) {v0 : Nat} {v1 : Int32} {v2 : Int32} {v3 : Int32} {σ σ1 : q_H} {r : Int32} (h : f_Rs_left v0 v1 v2 v3 σ = some (r, σ1)) : q_Rel (q_rf fo) q_Ms d 130 [.ref v0, .int v1, .int v2, .int v3] σ (.inl (some (.int r))) σ1 := by
  obtain ⟨d, rfl⟩ : ∃ d1, d = d1 + 1 := ⟨d - 1, by omega⟩
  exact q_Rel.of rfl rfl (b_Rs_left hd _ _ _ _ σ _ _ h ⟨rfl, rfl⟩)

set_option maxRecDepth 100000 in
theorem l_Rs_young_L46 {fo : Option Nat} {d : Nat} (hd : 7 ≤ d + 1) {o : q_O} {σ' : q_H} {E : (Int32) → q_H → Prop} (v0 : Nat) (v1 : Int32) (v2 : Int32) (v4 : Int32) (v5 : Option Nat) (hX : ∀ (t : Int32) σ1, E (t) σ1 → q_G (q_rf fo) d m_Rs_young o σ' 109 [some (.ref v0), some (.int v1), some (.int v2), some (.int t), some (.int v4), none, none] [] σ1)  : ∀ (n : Nat) (v3 : Int32) (v6 : Int32) (σ : q_H), q_J E (f_Rs_young_L46 v0 v1 v2 v4 v5 n v3 v6 σ) (q_G (q_rf fo) d m_Rs_young o σ' 46 [some (.ref v0), some (.int v1), some (.int v2), some (.int v3), some (.int v4), some (q_rf v5), some (.int v6)] [] σ)
  | 0, v3, v6, σ => J_none
  | n + 1, v3, v6, σ => by
    unfold f_Rs_young_L46
    refine q_J.step (fun g => j_aloadO (x := v5) rfl rfl (g)) ?_
    cases ha1 : v5 with
    | none =>
      try subst ha1
      exact J_some (fun h => j_nul_t rfl (j_weak (l := [some (.ref v0), some (.int v1), some (.int v2), some (.int v3), some (.int v4), none, none]) (And.intro (Or.inr rfl) (And.intro (Or.inr rfl) (And.intro (Or.inr rfl) (And.intro (Or.inr rfl) (And.intro (Or.inr rfl) (And.intro (Or.inl rfl) (And.intro (Or.inl rfl) True.intro))))))) (hX _ _ h)))
    | some a1 =>
      try subst ha1
      refine J_bind fun x2 hx2 => ?_
      refine q_J.step (fun g => j_nul_f rfl (j_iload rfl rfl (j_aload rfl rfl (j_gfi rfl hx2 (g))))) ?_
      refine J_ite (fun h3 => ?_) (fun h3 => ?_)
      · refine J_bind fun x4 hx4 => ?_
        refine J_bind fun x5 hx5 => ?_
        refine q_J.step (fun g => j_icmp_f rfl (cc_ge_f h3) (j_iload_n rfl rfl (j_aload rfl rfl (j_gfr rfl hx4 (j_iload rfl rfl (j_bal rfl rfl hx5 (j_iload_n rfl rfl (j_iconst (1 : Int32) rfl k32_1 (g))))))))) ?_
        refine J_sq (fun (t7 : Int32) (σ8 : q_H) => q_G (q_rf fo) d m_Rs_young o σ' 80 [some (.ref v0), some (.int v1), some (.int v2), none, some (.int v4), some (.ref a1), some (.int v6)] [.int t7, .int x5, .int v3] σ8) ?_ (fun t7 σ8 => ?_)
        · refine J_ite (fun h6 => ?_) (fun h6 => ?_)
          · exact J_some (fun h => j_icmp_f rfl (cc_ne_f h6) (j_iconst (1 : Int32) rfl k32_1 (j_goto rfl (j_weak (l := [some (.ref v0), some (.int v1), some (.int v2), none, some (.int v4), some (.ref a1), some (.int v6)]) (And.intro (Or.inr rfl) (And.intro (Or.inr rfl) (And.intro (Or.inr rfl) (And.intro (Or.inl rfl) (And.intro (Or.inr rfl) (And.intro (Or.inr rfl) (And.intro (Or.inr rfl) True.intro))))))) (h)))))
          exact J_some (fun h => j_icmp_t rfl (cc_ne_t h6) (j_iconst (0 : Int32) rfl k32_0 (j_weak (l := [some (.ref v0), some (.int v1), some (.int v2), none, some (.int v4), some (.ref a1), some (.int v6)]) (And.intro (Or.inr rfl) (And.intro (Or.inr rfl) (And.intro (Or.inr rfl) (And.intro (Or.inl rfl) (And.intro (Or.inr rfl) (And.intro (Or.inr rfl) (And.intro (Or.inr rfl) True.intro))))))) (h))))
        refine J_ite (fun h9 => ?_) (fun h9 => ?_)
        · refine J_bind fun x10 hx10 => ?_
          refine J_bind fun x11 hx11 => ?_
          refine q_J.step (fun g => j_icmp_f rfl (cc_ne_f h9) (j_aload rfl rfl (j_gfr rfl hx10 (j_iload rfl rfl (j_ial rfl hx11 (j_bipush (14 : Int32) rfl kb_14 (g))))))) ?_
          refine J_ite (fun h12 => ?_) (fun h12 => ?_)
          · exact q_J.step (fun g => j_icmp_t rfl (cc_gt_t h12) (j_iconst (0 : Int32) rfl k32_0 (j_iadd rfl (j_istore_n [some (.ref v0), some (.int v1), some (.int v2), some (.int (v3 + (0 : Int32))), some (.int v4), some (.ref a1), some (.int v6)] rfl rfl (Or.inr rfl) rfl (j_iinc [some (.ref v0), some (.int v1), some (.int v2), some (.int (v3 + (0 : Int32))), some (.int v4), some (.ref a1), some (.int (v6 + (1 : Int32)))] (v6 + (1 : Int32)) rfl rfl (by rw [k32_1]) (Or.inr rfl) rfl (j_goto rfl (g))))))) (l_Rs_young_L46 hd v0 v1 v2 v4 (some a1) hX n (v3 + (0 : Int32)) (v6 + (1 : Int32)) σ8)
          exact q_J.step (fun g => j_icmp_f rfl (cc_gt_f h12) (j_iconst (1 : Int32) rfl k32_1 (j_goto rfl (j_iadd rfl (j_istore_n [some (.ref v0), some (.int v1), some (.int v2), some (.int (v3 + (1 : Int32))), some (.int v4), some (.ref a1), some (.int v6)] rfl rfl (Or.inr rfl) rfl (j_iinc [some (.ref v0), some (.int v1), some (.int v2), some (.int (v3 + (1 : Int32))), some (.int v4), some (.ref a1), some (.int (v6 + (1 : Int32)))] (v6 + (1 : Int32)) rfl rfl (by rw [k32_1]) (Or.inr rfl) rfl (j_goto rfl (g)))))))) (l_Rs_young_L46 hd v0 v1 v2 v4 (some a1) hX n (v3 + (1 : Int32)) (v6 + (1 : Int32)) σ8)
        exact q_J.step (fun g => j_icmp_t rfl (cc_ne_t h9) (j_iconst (0 : Int32) rfl k32_0 (j_iadd rfl (j_istore_n [some (.ref v0), some (.int v1), some (.int v2), some (.int (v3 + (0 : Int32))), some (.int v4), some (.ref a1), some (.int v6)] rfl rfl (Or.inr rfl) rfl (j_iinc [some (.ref v0), some (.int v1), some (.int v2), some (.int (v3 + (0 : Int32))), some (.int v4), some (.ref a1), some (.int (v6 + (1 : Int32)))] (v6 + (1 : Int32)) rfl rfl (by rw [k32_1]) (Or.inr rfl) rfl (j_goto rfl (g))))))) (l_Rs_young_L46 hd v0 v1 v2 v4 (some a1) hX n (v3 + (0 : Int32)) (v6 + (1 : Int32)) σ8)
      exact J_some (fun h => j_icmp_t rfl (cc_ge_t h3) (j_weak (l := [some (.ref v0), some (.int v1), some (.int v2), some (.int v3), some (.int v4), none, none]) (And.intro (Or.inr rfl) (And.intro (Or.inr rfl) (And.intro (Or.inr rfl) (And.intro (Or.inr rfl) (And.intro (Or.inr rfl) (And.intro (Or.inl rfl) (And.intro (Or.inl rfl) True.intro))))))) (hX _ _ h)))

set_option maxRecDepth 100000 in
theorem l_Rs_young_L25 {fo : Option Nat} {d : Nat} (hd : 7 ≤ d + 1) {o : q_O} {σ' : q_H} {E : (Int32) → q_H → Prop} (v0 : Nat) (v1 : Int32) (v2 : Int32) (hX : ∀ (t : Int32) σ1, E (t) σ1 → q_G (q_rf fo) d m_Rs_young o σ' 115 [some (.ref v0), some (.int v1), some (.int v2), some (.int t), none, none, none] [] σ1)  : ∀ (n : Nat) (v3 : Int32) (v4 : Int32) (σ : q_H), q_J E (f_Rs_young_L25 v0 v1 v2 n v3 v4 σ) (q_G (q_rf fo) d m_Rs_young o σ' 25 [some (.ref v0), some (.int v1), some (.int v2), some (.int v3), some (.int v4), none, none] [] σ)
  | 0, v3, v4, σ => J_none
  | n + 1, v3, v4, σ => by
    unfold f_Rs_young_L25
    refine q_J.step (fun g => j_iload rfl rfl (j_bipush (24 : Int32) rfl kb_24 (g))) ?_
    refine J_ite (fun h1 => ?_) (fun h1 => ?_)
    · refine J_bind fun x2 hx2 => ?_
      refine J_bind fun w3 hw3 => ?_
      refine J_cl fun x5 σ4 hσ4 => ?_
      refine J_sq (fun (t6 : Int32) (σ7 : q_H) => q_G (q_rf fo) d m_Rs_young o σ' 109 [some (.ref v0), some (.int v1), some (.int v2), some (.int t6), some (.int v4), none, none] [] σ7) (q_J.step (fun g => j_icmp_f rfl (cc_ge_f h1) (j_aload_n rfl rfl (j_gfr rfl hx2 (j_iload rfl rfl (j_v1 [.ref x2, .int v4] [] rfl rfl rfl rfl rfl rfl hw3 (Or.inl rfl) (t_Sf_pageOf (by omega) hσ4) (j_astoreO (x := x5) [some (.ref v0), some (.int v1), some (.int v2), some (.int v3), some (.int v4), some (q_rf x5), none] rfl rfl (Or.inr rfl) rfl (j_iconst (0 : Int32) rfl k32_0 (j_istore [some (.ref v0), some (.int v1), some (.int v2), some (.int v3), some (.int v4), some (q_rf x5), some (.int (0 : Int32))] rfl rfl (Or.inr (q_rf_cat _)) rfl (g))))))))) (l_Rs_young_L46 hd v0 v1 v2 v4 x5 (fun _ _ h => h) q_FU v3 (0 : Int32) σ4)) (fun t6 σ7 => ?_)
      exact q_J.step (fun g => j_iinc [some (.ref v0), some (.int v1), some (.int v2), some (.int t6), some (.int (v4 + (1 : Int32))), none, none] (v4 + (1 : Int32)) rfl rfl (by rw [k32_1]) (Or.inr rfl) rfl (j_goto rfl (g))) (l_Rs_young_L25 hd v0 v1 v2 hX n t6 (v4 + (1 : Int32)) σ7)
    exact J_some (fun h => j_icmp_t rfl (cc_ge_t h1) (j_weak (l := [some (.ref v0), some (.int v1), some (.int v2), some (.int v3), none, none, none]) (And.intro (Or.inr rfl) (And.intro (Or.inr rfl) (And.intro (Or.inr rfl) (And.intro (Or.inr rfl) (And.intro (Or.inl rfl) (And.intro (Or.inr rfl) (And.intro (Or.inr rfl) True.intro))))))) (hX _ _ h)))

set_option maxRecDepth 100000 in
theorem b_Rs_young {fo : Option Nat} {d : Nat} (hd : 7 ≤ d + 1) {o : q_O} {σ' : q_H} (v0 : Nat) (v1 : Int32) (v2 : Int32) (σ : q_H) : q_J (fun (r : Int32) (σ1 : q_H) => o = .inl (some (.int r)) ∧ σ' = σ1) (f_Rs_young v0 v1 v2 σ) (q_G (q_rf fo) d m_Rs_young o σ' 0 [some (.ref v0), some (.int v1), some (.int v2), none, none, none, none] [] σ) := by
  unfold f_Rs_young
  refine J_cl fun x2 σ1 hσ1 => ?_
  refine q_J.step (fun g => j_iconst (0 : Int32) rfl k32_0 (j_iload_n rfl rfl (j_iconst (1 : Int32) rfl k32_1 (j_s1 [.int (0 : Int32), .int v1, .int (1 : Int32)] [] rfl rfl rfl rfl rfl (t_Rs_isFrom (by omega) hσ1) (g))))) ?_
  refine J_ite (fun h3 => ?_) (fun h3 => ?_)
  · exact J_some (fun h => j_if_t rfl (cc_eq_t h3) (j_iconst (-1 : Int32) rfl k32_m1 (j_iret rfl rfl h)))
  refine J_cl fun x5 σ4 hσ4 => ?_
  refine q_J.step (fun g => j_if_f rfl (cc_eq_f h3) (j_iconst (0 : Int32) rfl k32_0 (j_iload_n rfl rfl (j_iconst (2 : Int32) rfl k32_2 (j_s1 [.int (0 : Int32), .int v2, .int (2 : Int32)] [] rfl rfl rfl rfl rfl (t_Rs_isFrom (by omega) hσ4) (g)))))) ?_
  refine J_ite (fun h6 => ?_) (fun h6 => ?_)
  · exact J_some (fun h => j_if_f rfl (cc_ne_f h6) (j_iconst (-1 : Int32) rfl k32_m1 (j_iret rfl rfl h)))
  refine J_sq (fun (t7 : Int32) (σ8 : q_H) => q_G (q_rf fo) d m_Rs_young o σ' 115 [some (.ref v0), some (.int v1), some (.int v2), some (.int t7), none, none, none] [] σ8) (q_J.step (fun g => j_if_t rfl (cc_ne_t h6) (j_iconst (0 : Int32) rfl k32_0 (j_istore_n [some (.ref v0), some (.int v1), some (.int v2), some (.int (0 : Int32)), none, none, none] rfl rfl (Or.inr rfl) rfl (j_iconst (0 : Int32) rfl k32_0 (j_istore [some (.ref v0), some (.int v1), some (.int v2), some (.int (0 : Int32)), some (.int (0 : Int32)), none, none] rfl rfl (Or.inr rfl) rfl (g)))))) (l_Rs_young_L25 hd v0 v1 v2 (fun _ _ h => h) q_FU (0 : Int32) (0 : Int32) σ4)) (fun t7 σ8 => ?_)
  refine q_J.step (fun g => j_iload_n rfl rfl (j_iconst (1 : Int32) rfl k32_1 (g))) ?_
  refine J_sq (fun (t13 : Int32) (σ14 : q_H) => q_G (q_rf fo) d m_Rs_young o σ' 129 [some (.ref v0), some (.int v1), some (.int v2), some (.int t13), none, none, none] [] σ14) ?_ (fun t13 σ14 => ?_)
  · refine J_ite (fun h9 => ?_) (fun h9 => ?_)
    · exact J_some (fun h => j_icmp_t rfl (cc_lt_t h9) (h))
    refine J_bind fun w10 hw10 => ?_
    refine J_cl fun x12 σ11 hσ11 => ?_
    exact J_some (fun h => j_icmp_f rfl (cc_lt_f h9) (j_iload_n rfl rfl (j_aload_n rfl rfl (j_iload_n rfl rfl (j_iconst (0 : Int32) rfl k32_0 (j_v1 [.ref v0, .int v1, .int (0 : Int32)] [.int t7] rfl rfl rfl rfl rfl rfl hw10 (Or.inl rfl) (t_Rs_leftOfAll (by omega) hσ11) (j_iadd rfl (j_istore_n [some (.ref v0), some (.int v1), some (.int v2), some (.int (t7 + x12)), none, none, none] rfl rfl (Or.inr rfl) rfl (h)))))))))
  refine q_J.step (fun g => j_iload_n rfl rfl (j_iconst (2 : Int32) rfl k32_2 (g))) ?_
  refine J_ite (fun h15 => ?_) (fun h15 => ?_)
  · refine J_bind fun w16 hw16 => ?_
    refine J_cl fun x18 σ17 hσ17 => ?_
    exact J_some (fun h => j_icmp_f rfl (cc_ne_f h15) (j_iload_n rfl rfl (j_aload_n rfl rfl (j_iload_n rfl rfl (j_iconst (1 : Int32) rfl k32_1 (j_v1 [.ref v0, .int v1, .int (1 : Int32)] [.int t13] rfl rfl rfl rfl rfl rfl hw16 (Or.inl rfl) (t_Rs_leftOfAll (by omega) hσ17) (j_iadd rfl (j_goto rfl (j_iret rfl rfl h)))))))))
  exact J_some (fun h => j_icmp_t rfl (cc_ne_t h15) (j_iload_n rfl rfl (j_iret rfl rfl h)))
theorem t_Rs_young {fo : Option Nat} {d : Nat} (hd : 7 ≤ d) {v0 : Nat} {v1 : Int32} {v2 : Int32} {σ σ1 : q_H} {r : Int32} (h : f_Rs_young v0 v1 v2 σ = some (r, σ1)) : q_Rel (q_rf fo) q_Ms d 160 [.ref v0, .int v1, .int v2] σ (.inl (some (.int r))) σ1 := by
  obtain ⟨d, rfl⟩ : ∃ d1, d = d1 + 1 := ⟨d - 1, by omega⟩
  exact q_Rel.of rfl rfl (b_Rs_young hd _ _ _ σ _ _ h ⟨rfl, rfl⟩)

set_option maxRecDepth 100000 in
theorem b_Rs_line {fo : Option Nat} {d : Nat} (hd : 7 ≤ d + 1) {o : q_O} {σ' : q_H} (v0 : Nat) (v1 : Int32) (v2 : Int32) (v3 : Int32) (σ : q_H) : q_J (fun (r : Option Int32) (σ1 : q_H) => match r with | some x => o = .inl (some (.int x)) ∧ σ' = σ1 | none => o = .inr (σ1.2.1 - 1) ∧ σ' = σ1) (f_Rs_line v0 v1 v2 v3 σ) (q_G (q_rf fo) d m_Rs_line o σ' 0 [some (.ref v0), some (.int v1), some (.int v2), some (.int v3), none] [] σ) := by
  unfold f_Rs_line
  refine J_bind fun x1 hx1 => ?_
  refine J_bind fun w2 hw2 => ?_
  refine J_cl fun x4 σ3 hσ3 => ?_
  refine q_J.step (fun g => j_aload_n rfl rfl (j_gfr rfl hx1 (j_iload_n rfl rfl (j_v1 [.ref x1, .int v1] [] rfl rfl rfl rfl rfl rfl hw2 (Or.inl rfl) (t_Sf_pageOf (by omega) hσ3) (j_astoreO (x := x4) [some (.ref v0), some (.int v1), some (.int v2), some (.int v3), some (q_rf x4)] rfl rfl (Or.inr rfl) rfl (j_aloadO (x := x4) rfl rfl (g))))))) ?_
  cases ha5 : x4 with
  | none =>
    try subst ha5
    refine q_J.step (fun g => j_nul_t rfl (g)) ?_
    exact J_some (fun h => j_throw rfl (by omega) rfl rfl h.1 h.2)
  | some a5 =>
    try subst ha5
    refine J_bind fun w6 hw6 => ?_
    refine J_cl fun x8 σ7 hσ7 => ?_
    refine q_J.step (fun g => j_nul_f rfl (j_aload rfl rfl (j_iload_n rfl rfl (j_v1 [.ref a5, .int v2] [] rfl rfl rfl rfl rfl rfl hw6 (Or.inl rfl) (t_Pa_has (by omega) hσ7) (g))))) ?_
    refine J_ite (fun h9 => ?_) (fun h9 => ?_)
    · refine q_J.step (fun g => j_if_t rfl (cc_eq_t h9) (g)) ?_
      exact J_some (fun h => j_throw rfl (by omega) rfl rfl h.1 h.2)
    refine J_cl fun x11 σ10 hσ10 => ?_
    refine q_J.step (fun g => j_if_f rfl (cc_eq_f h9) (j_iconst (0 : Int32) rfl k32_0 (j_iload_n rfl rfl (j_iconst (5 : Int32) rfl k32_5 (j_s1 [.int (0 : Int32), .int v3, .int (5 : Int32)] [] rfl rfl rfl rfl rfl (t_Rs_isFrom (by omega) hσ10) (g)))))) ?_
    refine J_ite (fun h12 => ?_) (fun h12 => ?_)
    · refine q_J.step (fun g => j_if_f rfl (cc_ne_f h12) (g)) ?_
      exact J_some (fun h => j_throw rfl (by omega) rfl rfl h.1 h.2)
    refine q_J.step (fun g => j_if_t rfl (cc_ne_t h12) (j_iload_n rfl rfl (g))) ?_
    refine J_ite (fun h13 => ?_) (fun h13 => ?_)
    · refine J_bind fun x14 hx14 => ?_
      refine J_bind fun x15 hx15 => ?_
      refine q_J.step (fun g => j_sw 76 rfl (by rw [h13]; decide) (by rw [h13]; decide) (j_aload rfl rfl (j_gfr rfl hx14 (j_iload_n rfl rfl (j_bal rfl rfl hx15 (g)))))) ?_
      refine J_ite (fun h16 => ?_) (fun h16 => ?_)
      · exact J_some (fun h => j_if_t rfl (cc_eq_t h16) (j_iconst (0 : Int32) rfl k32_0 (j_iret rfl rfl h)))
      exact J_some (fun h => j_if_f rfl (cc_eq_f h16) (j_iconst (1 : Int32) rfl k32_1 (j_goto rfl (j_iret rfl rfl h))))
    refine J_ite (fun h17 => ?_) (fun h17 => ?_)
    · refine J_bind fun x18 hx18 => ?_
      refine J_bind fun x19 hx19 => ?_
      exact J_some (fun h => j_sw 92 rfl (by rw [h17]; decide) (by rw [h17]; decide) (j_aload rfl rfl (j_gfr rfl hx18 (j_iload_n rfl rfl (j_ial rfl hx19 (j_iret rfl rfl h))))))
    refine J_ite (fun h20 => ?_) (fun h20 => ?_)
    · refine J_bind fun w21 hw21 => ?_
      refine J_cl fun x23 σ22 hσ22 => ?_
      exact J_some (fun h => j_sw 100 rfl (by rw [h20]; decide) (by rw [h20]; decide) (j_iconst (2 : Int32) rfl k32_2 (j_aload rfl rfl (j_iload_n rfl rfl (j_v1 [.ref a5, .int v2] [.int (2 : Int32)] rfl rfl rfl rfl rfl rfl hw21 (Or.inl rfl) (t_Pa_slack (by omega) hσ22) (j_imul rfl (j_iret rfl rfl h)))))))
    refine J_ite (fun h24 => ?_) (fun h24 => ?_)
    · refine J_bind fun x25 hx25 => ?_
      refine J_bind fun x26 hx26 => ?_
      exact J_some (fun h => j_sw 109 rfl (by rw [h24]; decide) (by rw [h24]; decide) (j_aload rfl rfl (j_gfr rfl hx25 (j_iload_n rfl rfl (j_ial rfl hx26 (j_iret rfl rfl h))))))
    refine J_ite (fun h27 => ?_) (fun h27 => ?_)
    · refine J_bind fun x28 hx28 => ?_
      refine J_bind fun x29 hx29 => ?_
      exact J_some (fun h => j_sw 117 rfl (by rw [h27]; decide) (by rw [h27]; decide) (j_aload rfl rfl (j_gfr rfl hx28 (j_iload_n rfl rfl (j_ial rfl hx29 (j_iret rfl rfl h))))))
    refine J_bind fun x30 hx30 => ?_
    refine J_bind fun x31 hx31 => ?_
    exact J_some (fun h => j_swd 125 rfl (q_swd_0_4 h13 h17 h20 h24 h27) rfl (j_aload rfl rfl (j_gfr rfl hx30 (j_iload_n rfl rfl (j_ial rfl hx31 (j_bipush (63 : Int32) rfl kb_63 (j_iand rfl (j_iret rfl rfl h))))))))
theorem t_Rs_line {fo : Option Nat} {d : Nat} (hd : 7 ≤ d) {v0 : Nat} {v1 : Int32} {v2 : Int32} {v3 : Int32} {σ σ1 : q_H} {r : Int32} (h : f_Rs_line v0 v1 v2 v3 σ = some (some r, σ1)) : q_Rel (q_rf fo) q_Ms d 165 [.ref v0, .int v1, .int v2, .int v3] σ (.inl (some (.int r))) σ1 := by
  obtain ⟨d, rfl⟩ : ∃ d1, d = d1 + 1 := ⟨d - 1, by omega⟩
  exact q_Rel.of rfl rfl (b_Rs_line hd _ _ _ _ σ _ _ h ⟨rfl, rfl⟩)
theorem t_Rs_line_x {fo : Option Nat} {d : Nat} (hd : 7 ≤ d) {v0 : Nat} {v1 : Int32} {v2 : Int32} {v3 : Int32} {σ σ1 : q_H} (h : f_Rs_line v0 v1 v2 v3 σ = some (none, σ1)) : q_Rel (q_rf fo) q_Ms d 165 [.ref v0, .int v1, .int v2, .int v3] σ (.inr (σ1.2.1 - 1)) σ1 := by
  obtain ⟨d, rfl⟩ : ∃ d1, d = d1 + 1 := ⟨d - 1, by omega⟩
  exact q_Rel.of rfl rfl (b_Rs_line hd _ _ _ _ σ _ _ h ⟨rfl, rfl⟩)

set_option maxRecDepth 100000 in
theorem b_Rs_move {fo : Option Nat} {d : Nat} (hd : 7 ≤ d + 1) {o : q_O} {σ' : q_H} (v0 : Nat) (v1 : Int32) (v2 : Int32) (σ : q_H) : q_J (fun (r : Option Int32) (σ1 : q_H) => match r with | some x => o = .inl (some (.int x)) ∧ σ' = σ1 | none => o = .inr (σ1.2.1 - 1) ∧ σ' = σ1) (f_Rs_move v0 v1 v2 σ) (q_G (q_rf fo) d m_Rs_move o σ' 0 [some (.ref v0), some (.int v1), some (.int v2), none] [] σ) := by
  unfold f_Rs_move
  refine J_bind fun w1 hw1 => ?_
  refine J_cl fun x3 σ2 hσ2 => ?_
  refine J_bind fun w4 hw4 => ?_
  refine J_cl fun x6 σ5 hσ5 => ?_
  refine q_J.step (fun g => j_aload_n rfl rfl (j_iload_n rfl rfl (j_aload_n rfl rfl (j_iconst (0 : Int32) rfl k32_0 (j_iconst (0 : Int32) rfl k32_0 (j_v1 [.ref v0, .int (0 : Int32), .int (0 : Int32)] [.int v1, .ref v0] rfl rfl rfl rfl rfl rfl hw1 (Or.inl rfl) (t_Rs_gather (by omega) hσ2) (j_v1 [.ref v0, .int v1, .ref x3] [] rfl rfl rfl rfl rfl rfl hw4 (Or.inl rfl) (t_Rs_moveOf (by omega) hσ5) (j_astore_nO (x := x6) [some (.ref v0), some (.int v1), some (.int v2), some (q_rf x6)] rfl rfl (Or.inr rfl) rfl (j_aload_nO (x := x6) rfl rfl (g)))))))))) ?_
  cases ha7 : x6 with
  | none =>
    try subst ha7
    refine q_J.step (fun g => j_nul_t rfl (g)) ?_
    exact J_some (fun h => j_throw rfl (by omega) rfl rfl h.1 h.2)
  | some a7 =>
    try subst ha7
    refine J_cl fun x9 σ8 hσ8 => ?_
    refine q_J.step (fun g => j_nul_f rfl (j_iconst (0 : Int32) rfl k32_0 (j_iload_n rfl rfl (j_iconst (1 : Int32) rfl k32_1 (j_s1 [.int (0 : Int32), .int v2, .int (1 : Int32)] [] rfl rfl rfl rfl rfl (t_Rs_isFrom (by omega) hσ8) (g)))))) ?_
    refine J_ite (fun h10 => ?_) (fun h10 => ?_)
    · refine q_J.step (fun g => j_if_f rfl (cc_ne_f h10) (g)) ?_
      exact J_some (fun h => j_throw rfl (by omega) rfl rfl h.1 h.2)
    refine J_cl fun x12 σ11 hσ11 => ?_
    exact J_some (fun h => j_if_t rfl (cc_ne_t h10) (j_aload_n rfl rfl (j_iload_n rfl rfl (j_s1 [.ref a7, .int v2] [] rfl rfl rfl rfl rfl (t_Rs_partOf (by omega) hσ11) (j_iret rfl rfl h)))))
theorem t_Rs_move {fo : Option Nat} {d : Nat} (hd : 7 ≤ d) {v0 : Nat} {v1 : Int32} {v2 : Int32} {σ σ1 : q_H} {r : Int32} (h : f_Rs_move v0 v1 v2 σ = some (some r, σ1)) : q_Rel (q_rf fo) q_Ms d 166 [.ref v0, .int v1, .int v2] σ (.inl (some (.int r))) σ1 := by
  obtain ⟨d, rfl⟩ : ∃ d1, d = d1 + 1 := ⟨d - 1, by omega⟩
  exact q_Rel.of rfl rfl (b_Rs_move hd _ _ _ σ _ _ h ⟨rfl, rfl⟩)
theorem t_Rs_move_x {fo : Option Nat} {d : Nat} (hd : 7 ≤ d) {v0 : Nat} {v1 : Int32} {v2 : Int32} {σ σ1 : q_H} (h : f_Rs_move v0 v1 v2 σ = some (none, σ1)) : q_Rel (q_rf fo) q_Ms d 166 [.ref v0, .int v1, .int v2] σ (.inr (σ1.2.1 - 1)) σ1 := by
  obtain ⟨d, rfl⟩ : ∃ d1, d = d1 + 1 := ⟨d - 1, by omega⟩
  exact q_Rel.of rfl rfl (b_Rs_move hd _ _ _ σ _ _ h ⟨rfl, rfl⟩)

set_option maxRecDepth 100000 in
theorem b_Rs_lean {fo : Option Nat} {d : Nat} (hd : 7 ≤ d + 1) {o : q_O} {σ' : q_H} (v0 : Nat) (v1 : Int32) (σ : q_H) : q_J (fun (r : Option Int32) (σ1 : q_H) => match r with | some x => o = .inl (some (.int x)) ∧ σ' = σ1 | none => o = .inr (σ1.2.1 - 1) ∧ σ' = σ1) (f_Rs_lean v0 v1 σ) (q_G (q_rf fo) d m_Rs_lean o σ' 0 [some (.ref v0), some (.int v1), none, none, none] [] σ) := by
  unfold f_Rs_lean
  refine J_bind fun w1 hw1 => ?_
  refine J_cl fun x3 σ2 hσ2 => ?_
  refine J_bind fun w4 hw4 => ?_
  refine J_cl fun x6 σ5 hσ5 => ?_
  refine J_bind fun w7 hw7 => ?_
  refine J_cl fun x9 σ8 hσ8 => ?_
  refine J_bind fun w10 hw10 => ?_
  refine J_cl fun x12 σ11 hσ11 => ?_
  refine J_bind fun w13 hw13 => ?_
  refine J_cl fun x15 σ14 hσ14 => ?_
  refine J_bind fun w16 hw16 => ?_
  refine J_cl fun x18 σ17 hσ17 => ?_
  refine J_cl fun x20 σ19 hσ19 => ?_
  refine q_J.step (fun g => j_aload_n rfl rfl (j_iconst (3 : Int32) rfl k32_3 (j_iconst (0 : Int32) rfl k32_0 (j_v1 [.ref v0, .int (3 : Int32), .int (0 : Int32)] [] rfl rfl rfl rfl rfl rfl hw1 (Or.inl rfl) (t_Rs_gather (by omega) hσ2) (j_astore_n [some (.ref v0), some (.int v1), some (.ref x3), none, none] rfl rfl (Or.inr rfl) rfl (j_aload_n rfl rfl (j_iconst (3 : Int32) rfl k32_3 (j_iconst (1 : Int32) rfl k32_1 (j_v1 [.ref v0, .int (3 : Int32), .int (1 : Int32)] [] rfl rfl rfl rfl rfl rfl hw4 (Or.inl rfl) (t_Rs_gather (by omega) hσ5) (j_astore_n [some (.ref v0), some (.int v1), some (.ref x3), some (.ref x6), none] rfl rfl (Or.inr rfl) rfl (j_aload_n rfl rfl (j_iconst (0 : Int32) rfl k32_0 (j_iconst (0 : Int32) rfl k32_0 (j_v1 [.ref x3, .int (0 : Int32), .int (0 : Int32)] [] rfl rfl rfl rfl rfl rfl hw7 (Or.inl rfl) (t_Ty_picked (by omega) hσ8) (g))))))))))))))) ?_
  refine q_J.step (fun g => j_i2l rfl (j_aload_n rfl rfl (j_iconst (0 : Int32) rfl k32_0 (j_v1 [.ref x3, .int (0 : Int32)] [.long x9.toInt64] rfl rfl rfl rfl rfl rfl hw10 (Or.inl rfl) (t_Ty_all (by omega) hσ11) (j_i2l rfl (j_aload_n rfl rfl (j_iconst (0 : Int32) rfl k32_0 (j_iconst (0 : Int32) rfl k32_0 (j_v1 [.ref x6, .int (0 : Int32), .int (0 : Int32)] [.long x12.toInt64, .long x9.toInt64] rfl rfl rfl rfl rfl rfl hw13 (Or.inl rfl) (t_Ty_picked (by omega) hσ14) (j_i2l rfl (j_aload_n rfl rfl (j_iconst (0 : Int32) rfl k32_0 (j_v1 [.ref x6, .int (0 : Int32)] [.long x15.toInt64, .long x12.toInt64, .long x9.toInt64] rfl rfl rfl rfl rfl rfl hw16 (Or.inl rfl) (t_Ty_all (by omega) hσ17) (j_i2l rfl (g))))))))))))))) ?_
  refine q_J.step (fun g => j_s1 [.long x9.toInt64, .long x12.toInt64, .long x15.toInt64, .long x18.toInt64] [] rfl rfl rfl rfl rfl (t_Ra_difference (by omega) hσ19) (j_astoreO (x := x20) [some (.ref v0), some (.int v1), some (.ref x3), some (.ref x6), some (q_rf x20)] rfl rfl (Or.inr rfl) rfl (j_aloadO (x := x20) rfl rfl (g)))) ?_
  cases ha21 : x20 with
  | none =>
    try subst ha21
    refine q_J.step (fun g => j_nul_t rfl (g)) ?_
    exact J_some (fun h => j_throw rfl (by omega) rfl rfl h.1 h.2)
  | some a21 =>
    try subst ha21
    refine J_cl fun x23 σ22 hσ22 => ?_
    refine q_J.step (fun g => j_nul_f rfl (j_iconst (0 : Int32) rfl k32_0 (j_iload_n rfl rfl (j_iconst (1 : Int32) rfl k32_1 (j_s1 [.int (0 : Int32), .int v1, .int (1 : Int32)] [] rfl rfl rfl rfl rfl (t_Rs_isFrom (by omega) hσ22) (g)))))) ?_
    refine J_ite (fun h24 => ?_) (fun h24 => ?_)
    · refine q_J.step (fun g => j_if_f rfl (cc_ne_f h24) (g)) ?_
      exact J_some (fun h => j_throw rfl (by omega) rfl rfl h.1 h.2)
    refine J_cl fun x26 σ25 hσ25 => ?_
    exact J_some (fun h => j_if_t rfl (cc_ne_t h24) (j_aload rfl rfl (j_iload_n rfl rfl (j_s1 [.ref a21, .int v1] [] rfl rfl rfl rfl rfl (t_Rs_partOf (by omega) hσ25) (j_iret rfl rfl h)))))
theorem t_Rs_lean {fo : Option Nat} {d : Nat} (hd : 7 ≤ d) {v0 : Nat} {v1 : Int32} {σ σ1 : q_H} {r : Int32} (h : f_Rs_lean v0 v1 σ = some (some r, σ1)) : q_Rel (q_rf fo) q_Ms d 167 [.ref v0, .int v1] σ (.inl (some (.int r))) σ1 := by
  obtain ⟨d, rfl⟩ : ∃ d1, d = d1 + 1 := ⟨d - 1, by omega⟩
  exact q_Rel.of rfl rfl (b_Rs_lean hd _ _ σ _ _ h ⟨rfl, rfl⟩)
theorem t_Rs_lean_x {fo : Option Nat} {d : Nat} (hd : 7 ≤ d) {v0 : Nat} {v1 : Int32} {σ σ1 : q_H} (h : f_Rs_lean v0 v1 σ = some (none, σ1)) : q_Rel (q_rf fo) q_Ms d 167 [.ref v0, .int v1] σ (.inr (σ1.2.1 - 1)) σ1 := by
  obtain ⟨d, rfl⟩ : ∃ d1, d = d1 + 1 := ⟨d - 1, by omega⟩
  exact q_Rel.of rfl rfl (b_Rs_lean hd _ _ σ _ _ h ⟨rfl, rfl⟩)

set_option maxRecDepth 100000 in
theorem b_Rs_known {fo : Option Nat} {d : Nat} (hd : 7 ≤ d + 1) {o : q_O} {σ' : q_H} (v0 : Nat) (v1 : Int32) (v2 : Int32) (v3 : Int32) (σ : q_H) : q_J (fun (r : Option Int32) (σ1 : q_H) => match r with | some x => o = .inl (some (.int x)) ∧ σ' = σ1 | none => o = .inr (σ1.2.1 - 1) ∧ σ' = σ1) (f_Rs_known v0 v1 v2 v3 σ) (q_G (q_rf fo) d m_Rs_known o σ' 0 [some (.ref v0), some (.int v1), some (.int v2), some (.int v3), none, none] [] σ) := by
  unfold f_Rs_known
  refine J_bind fun x1 hx1 => ?_
  refine J_bind fun w2 hw2 => ?_
  refine J_cl fun x4 σ3 hσ3 => ?_
  refine q_J.step (fun g => j_aload_n rfl rfl (j_gfr rfl hx1 (j_iload_n rfl rfl (j_v1 [.ref x1, .int v1] [] rfl rfl rfl rfl rfl rfl hw2 (Or.inl rfl) (t_Sf_pageOf (by omega) hσ3) (j_astoreO (x := x4) [some (.ref v0), some (.int v1), some (.int v2), some (.int v3), some (q_rf x4), none] rfl rfl (Or.inr rfl) rfl (j_aloadO (x := x4) rfl rfl (g))))))) ?_
  cases ha5 : x4 with
  | none =>
    try subst ha5
    refine q_J.step (fun g => j_nul_t rfl (g)) ?_
    exact J_some (fun h => j_throw rfl (by omega) rfl rfl h.1 h.2)
  | some a5 =>
    try subst ha5
    refine J_bind fun w6 hw6 => ?_
    refine J_cl fun x8 σ7 hσ7 => ?_
    refine q_J.step (fun g => j_nul_f rfl (j_aload rfl rfl (j_iload_n rfl rfl (j_v1 [.ref a5, .int v2] [] rfl rfl rfl rfl rfl rfl hw6 (Or.inl rfl) (t_Pa_has (by omega) hσ7) (g))))) ?_
    refine J_ite (fun h9 => ?_) (fun h9 => ?_)
    · refine q_J.step (fun g => j_if_t rfl (cc_eq_t h9) (g)) ?_
      exact J_some (fun h => j_throw rfl (by omega) rfl rfl h.1 h.2)
    refine J_cl fun x11 σ10 hσ10 => ?_
    refine q_J.step (fun g => j_if_f rfl (cc_eq_f h9) (j_iconst (0 : Int32) rfl k32_0 (j_iload_n rfl rfl (j_iconst (1 : Int32) rfl k32_1 (j_s1 [.int (0 : Int32), .int v3, .int (1 : Int32)] [] rfl rfl rfl rfl rfl (t_Rs_isFrom (by omega) hσ10) (g)))))) ?_
    refine J_ite (fun h12 => ?_) (fun h12 => ?_)
    · refine q_J.step (fun g => j_if_f rfl (cc_ne_f h12) (g)) ?_
      exact J_some (fun h => j_throw rfl (by omega) rfl rfl h.1 h.2)
    refine J_bind fun x13 hx13 => ?_
    refine J_bind fun x14 hx14 => ?_
    refine J_bind fun w15 hw15 => ?_
    refine J_cl fun _ σ16 hσ16 => ?_
    refine J_bind fun x18 hx18 => ?_
    refine J_bind fun x19 hx19 => ?_
    refine J_bind fun x20 hx20 => ?_
    refine J_bind fun x21 hx21 => ?_
    refine J_bind fun x22 hx22 => ?_
    refine J_bind fun x23 hx23 => ?_
    refine q_J.step (fun g => j_if_t rfl (cc_ne_t h12) (j_aload_n rfl rfl (j_gfr rfl hx13 (j_aload_n rfl rfl (j_gfr rfl hx14 (j_v0 [.ref x13, .ref x14] [] rfl rfl rfl rfl rfl rfl hw15 (Or.inl rfl) (t_Ho_refresh (by omega) hσ16) (j_iload_n rfl rfl (j_bipush (12 : Int32) rfl kb_12 (j_imul rfl (j_iload_n rfl rfl (j_iadd rfl (j_istore [some (.ref v0), some (.int v1), some (.int v2), some (.int v3), some (.ref a5), some (.int ((v1 * (12 : Int32)) + v2))] rfl rfl (Or.inr rfl) rfl (j_aload_n rfl rfl (j_gfr rfl hx18 (g))))))))))))))) ?_
    refine q_J.step (fun g => j_gfr rfl hx19 (j_iload rfl rfl (j_ial rfl hx20 (j_aload_n rfl rfl (j_gfr rfl hx21 (j_gfr rfl hx22 (j_iload rfl rfl (j_ial rfl hx23 (g))))))))) ?_
    refine J_ite (fun h24 => ?_) (fun h24 => ?_)
    · refine q_J.step (fun g => j_icmp_f rfl (cc_le_f h24) (g)) ?_
      exact J_some (fun h => j_throw rfl (by omega) rfl rfl h.1 h.2)
    refine q_J.step (fun g => j_icmp_t rfl (cc_le_t h24) (j_iload_n rfl rfl (g))) ?_
    refine J_ite (fun h25 => ?_) (fun h25 => ?_)
    · refine J_bind fun x26 hx26 => ?_
      refine J_bind fun x27 hx27 => ?_
      refine J_bind fun x28 hx28 => ?_
      exact J_some (fun h => j_if_f rfl (cc_ne_f h25) (j_aload_n rfl rfl (j_gfr rfl hx26 (j_gfr rfl hx27 (j_iload rfl rfl (j_ial rfl hx28 (j_goto rfl (j_iret rfl rfl h))))))))
    refine J_bind fun x29 hx29 => ?_
    refine J_bind fun x30 hx30 => ?_
    refine J_bind fun x31 hx31 => ?_
    exact J_some (fun h => j_if_t rfl (cc_ne_t h25) (j_aload_n rfl rfl (j_gfr rfl hx29 (j_gfr rfl hx30 (j_iload rfl rfl (j_ial rfl hx31 (j_iret rfl rfl h)))))))
theorem t_Rs_known {fo : Option Nat} {d : Nat} (hd : 7 ≤ d) {v0 : Nat} {v1 : Int32} {v2 : Int32} {v3 : Int32} {σ σ1 : q_H} {r : Int32} (h : f_Rs_known v0 v1 v2 v3 σ = some (some r, σ1)) : q_Rel (q_rf fo) q_Ms d 168 [.ref v0, .int v1, .int v2, .int v3] σ (.inl (some (.int r))) σ1 := by
  obtain ⟨d, rfl⟩ : ∃ d1, d = d1 + 1 := ⟨d - 1, by omega⟩
  exact q_Rel.of rfl rfl (b_Rs_known hd _ _ _ _ σ _ _ h ⟨rfl, rfl⟩)
theorem t_Rs_known_x {fo : Option Nat} {d : Nat} (hd : 7 ≤ d) {v0 : Nat} {v1 : Int32} {v2 : Int32} {v3 : Int32} {σ σ1 : q_H} (h : f_Rs_known v0 v1 v2 v3 σ = some (none, σ1)) : q_Rel (q_rf fo) q_Ms d 168 [.ref v0, .int v1, .int v2, .int v3] σ (.inr (σ1.2.1 - 1)) σ1 := by
  obtain ⟨d, rfl⟩ : ∃ d1, d = d1 + 1 := ⟨d - 1, by omega⟩
  exact q_Rel.of rfl rfl (b_Rs_known hd _ _ _ _ σ _ _ h ⟨rfl, rfl⟩)

