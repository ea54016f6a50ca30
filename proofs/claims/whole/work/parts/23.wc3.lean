/-! Methods of the class: walks: by program. -/
set_option maxRecDepth 100000 in
theorem l_Rs_groupLines_L25 {fo : Option Nat} {d : Nat} (hd : 3 ≤ d + 1) {o : q_O} {σ' : q_H} {E : (Unit) → q_H → Prop} (v0 : Nat) (v1 : Nat) (v2 : Int32) (v3 : Option Nat) (hX : ∀ (t : Unit) σ1, E (t) σ1 → q_G (q_rf fo) d m_Rs_groupLines o σ' 64 [some (.ref v0), some (.ref v1), some (.int v2), none, none] [] σ1)  : ∀ (n : Nat) (v4 : Int32) (σ : q_H), q_J E (f_Rs_groupLines_L25 v0 v1 v2 v3 n v4 σ) (q_G (q_rf fo) d m_Rs_groupLines o σ' 25 [some (.ref v0), some (.ref v1), some (.int v2), some (q_rf v3), some (.int v4)] [] σ)
  | 0, v4, σ => J_none
  | n + 1, v4, σ => by
    unfold f_Rs_groupLines_L25
    refine q_J.step (fun g => j_aload_nO (x := v3) rfl rfl (g)) ?_
    cases ha1 : v3 with
    | none =>
      try subst ha1
      exact J_some (fun h => j_nul_t rfl (j_weak (l := [some (.ref v0), some (.ref v1), some (.int v2), none, none]) (And.intro (Or.inr rfl) (And.intro (Or.inr rfl) (And.intro (Or.inr rfl) (And.intro (Or.inl rfl) (And.intro (Or.inl rfl) True.intro))))) (hX _ _ h)))
    | some a1 =>
      try subst ha1
      refine J_bind fun x2 hx2 => ?_
      refine q_J.step (fun g => j_nul_f rfl (j_iload rfl rfl (j_aload_n rfl rfl (j_gfi rfl hx2 (g))))) ?_
      refine J_ite (fun h3 => ?_) (fun h3 => ?_)
      · refine J_bind fun x4 hx4 => ?_
        refine J_bind fun x5 hx5 => ?_
        refine J_bind fun x6 hx6 => ?_
        refine J_bind fun σ7 hσ7 => ?_
        exact q_J.step (fun g => j_icmp_f rfl (cc_ge_f h3) (j_aload_n rfl rfl (j_aload_n rfl rfl (j_gfr rfl hx4 (j_iload rfl rfl (j_ial rfl hx5 (j_iconst (5 : Int32) rfl k32_5 (j_idiv rfl (by decide) (j_bipush (16 : Int32) rfl kb_16 (j_min rfl rfl (j_dup2 rfl rfl rfl (j_ial rfl hx6 (j_iconst (1 : Int32) rfl k32_1 (j_iadd rfl (j_ias rfl hσ7 (j_iinc [some (.ref v0), some (.ref v1), some (.int v2), some (.ref a1), some (.int (v4 + (1 : Int32)))] (v4 + (1 : Int32)) rfl rfl (by rw [k32_1]) (Or.inr rfl) rfl (j_goto rfl (g)))))))))))))))))) (l_Rs_groupLines_L25 hd v0 v1 v2 (some a1) hX n (v4 + (1 : Int32)) σ7)
      exact J_some (fun h => j_icmp_t rfl (cc_ge_t h3) (j_weak (l := [some (.ref v0), some (.ref v1), some (.int v2), none, none]) (And.intro (Or.inr rfl) (And.intro (Or.inr rfl) (And.intro (Or.inr rfl) (And.intro (Or.inl rfl) (And.intro (Or.inl rfl) True.intro))))) (hX _ _ h)))

set_option maxRecDepth 100000 in
theorem l_Rs_groupLines_L7 {fo : Option Nat} {d : Nat} (hd : 3 ≤ d + 1) {o : q_O} {σ' : q_H} {E : (Unit) → q_H → Prop} (v0 : Nat) (v1 : Nat) (hX : ∀ (t : Unit) σ1, E (t) σ1 → q_G (q_rf fo) d m_Rs_groupLines o σ' 70 [none, some (.ref v1), none, none, none] [] σ1)  : ∀ (n : Nat) (v2 : Int32) (σ : q_H), q_J E (f_Rs_groupLines_L7 v0 v1 n v2 σ) (q_G (q_rf fo) d m_Rs_groupLines o σ' 7 [some (.ref v0), some (.ref v1), some (.int v2), none, none] [] σ)
  | 0, v2, σ => J_none
  | n + 1, v2, σ => by
    unfold f_Rs_groupLines_L7
    refine q_J.step (fun g => j_iload_n rfl rfl (j_bipush (24 : Int32) rfl kb_24 (g))) ?_
    refine J_ite (fun h1 => ?_) (fun h1 => ?_)
    · refine J_bind fun x2 hx2 => ?_
      refine J_bind fun w3 hw3 => ?_
      refine J_cl fun x5 σ4 hσ4 => ?_
      refine J_sq (fun (t6 : Unit) (σ7 : q_H) => q_G (q_rf fo) d m_Rs_groupLines o σ' 64 [some (.ref v0), some (.ref v1), some (.int v2), none, none] [] σ7) (q_J.step (fun g => j_icmp_f rfl (cc_ge_f h1) (j_aload_n rfl rfl (j_gfr rfl hx2 (j_iload_n rfl rfl (j_v1 [.ref x2, .int v2] [] rfl rfl rfl rfl rfl rfl hw3 (Or.inl rfl) (t_Sf_pageOf (by omega) hσ4) (j_astore_nO (x := x5) [some (.ref v0), some (.ref v1), some (.int v2), some (q_rf x5), none] rfl rfl (Or.inr rfl) rfl (j_iconst (0 : Int32) rfl k32_0 (j_istore [some (.ref v0), some (.ref v1), some (.int v2), some (q_rf x5), some (.int (0 : Int32))] rfl rfl (Or.inr (q_rf_cat _)) rfl (g))))))))) (l_Rs_groupLines_L25 hd v0 v1 v2 x5 (fun _ _ h => h) q_FU (0 : Int32) σ4)) (fun t6 σ7 => ?_)
      exact q_J.step (fun g => j_iinc [some (.ref v0), some (.ref v1), some (.int (v2 + (1 : Int32))), none, none] (v2 + (1 : Int32)) rfl rfl (by rw [k32_1]) (Or.inr rfl) rfl (j_goto rfl (g))) (l_Rs_groupLines_L7 hd v0 v1 hX n (v2 + (1 : Int32)) σ7)
    exact J_some (fun h => j_icmp_t rfl (cc_ge_t h1) (j_weak (l := [none, some (.ref v1), none, none, none]) (And.intro (Or.inl rfl) (And.intro (Or.inr rfl) (And.intro (Or.inl rfl) (And.intro (Or.inr rfl) (And.intro (Or.inr rfl) True.intro))))) (hX _ _ h)))

set_option maxRecDepth 100000 in
theorem b_Rs_groupLines {fo : Option Nat} {d : Nat} (hd : 3 ≤ d + 1) {o : q_O} {σ' : q_H} (v0 : Nat) (σ : q_H) : q_J (fun (r : Nat) (σ1 : q_H) => o = .inl (some (.ref r)) ∧ σ' = σ1) (f_Rs_groupLines v0 σ) (q_G (q_rf fo) d m_Rs_groupLines o σ' 0 [some (.ref v0), none, none, none, none] [] σ) := by
  unfold f_Rs_groupLines
  refine J_ma fun σ1 a2 hσ1 ha2 => ?_
  refine J_sq (fun (t3 : Unit) (σ4 : q_H) => q_G (q_rf fo) d m_Rs_groupLines o σ' 70 [none, some (.ref a2), none, none, none] [] σ4) (q_J.step (fun g => j_bipush (17 : Int32) rfl kb_17 (j_newk 17 (.int 0) rfl rfl rfl (by decide) (by decide) hσ1 ha2 (j_astore_n [some (.ref v0), some (.ref a2), none, none, none] rfl rfl (Or.inr rfl) rfl (j_iconst (0 : Int32) rfl k32_0 (j_istore_n [some (.ref v0), some (.ref a2), some (.int (0 : Int32)), none, none] rfl rfl (Or.inr rfl) rfl (g)))))) (l_Rs_groupLines_L7 hd v0 a2 (fun _ _ h => h) q_FU (0 : Int32) σ1)) (fun t3 σ4 => ?_)
  exact J_some (fun h => j_aload_n rfl rfl (j_aret (x := some a2) rfl (Or.inr ⟨_, rfl⟩) h))
theorem t_Rs_groupLines {fo : Option Nat} {d : Nat} (hd : 3 ≤ d) {v0 : Nat} {σ σ1 : q_H} {r : Nat} (h : f_Rs_groupLines v0 σ = some (r, σ1)) : q_Rel (q_rf fo) q_Ms d 136 [.ref v0] σ (.inl (some (.ref r))) σ1 := by
  obtain ⟨d, rfl⟩ : ∃ d1, d = d1 + 1 := ⟨d - 1, by omega⟩
  exact q_Rel.of rfl rfl (b_Rs_groupLines hd _ σ _ _ h ⟨rfl, rfl⟩)

set_option maxRecDepth 100000 in
theorem b_Rs_could {fo : Option Nat} {d : Nat} (hd : 3 ≤ d + 1) {o : q_O} {σ' : q_H} (v0 : Nat) (v1 : Int32) (v2 : Int32) (v3 : Int32) (v4 : Int32) (σ : q_H) : q_J (fun (r : Int64) (σ1 : q_H) => o = .inl (some (.long r)) ∧ σ' = σ1) (f_Rs_could v0 v1 v2 v3 v4 σ) (q_G (q_rf fo) d m_Rs_could o σ' 0 [some (.ref v0), some (.int v1), some (.int v2), some (.int v3), some (.int v4), none] [] σ) := by
  unfold f_Rs_could
  refine J_cl fun x2 σ1 hσ1 => ?_
  refine q_J.step (fun g => j_iload_n rfl rfl (j_s1 [.int v1] [] rfl rfl rfl rfl rfl (t_Rs_isTable (by omega) hσ1) (g))) ?_
  refine J_ite (fun h3 => ?_) (fun h3 => ?_)
  · exact J_some (fun h => j_if_t rfl (cc_eq_t h3) (j_ldc2 (-1 : Int64) rfl kw_m1 (j_lret rfl rfl h)))
  refine J_cl fun x5 σ4 hσ4 => ?_
  refine q_J.step (fun g => j_if_f rfl (cc_eq_f h3) (j_iconst (0 : Int32) rfl k32_0 (j_iload_n rfl rfl (j_bipush (120 : Int32) rfl kb_120 (j_s1 [.int (0 : Int32), .int v2, .int (120 : Int32)] [] rfl rfl rfl rfl rfl (t_Rs_isFrom (by omega) hσ4) (g)))))) ?_
  refine J_ite (fun h6 => ?_) (fun h6 => ?_)
  · exact J_some (fun h => j_if_t rfl (cc_eq_t h6) (j_ldc2 (-1 : Int64) rfl kw_m1 (j_lret rfl rfl h)))
  refine J_cl fun x8 σ7 hσ7 => ?_
  refine q_J.step (fun g => j_if_f rfl (cc_eq_f h6) (j_iconst (0 : Int32) rfl k32_0 (j_iload_n rfl rfl (j_bipush (30 : Int32) rfl kb_30 (j_s1 [.int (0 : Int32), .int v3, .int (30 : Int32)] [] rfl rfl rfl rfl rfl (t_Rs_isFrom (by omega) hσ7) (g)))))) ?_
  refine J_ite (fun h9 => ?_) (fun h9 => ?_)
  · exact J_some (fun h => j_if_t rfl (cc_eq_t h9) (j_ldc2 (-1 : Int64) rfl kw_m1 (j_lret rfl rfl h)))
  refine J_cl fun x11 σ10 hσ10 => ?_
  refine q_J.step (fun g => j_if_f rfl (cc_eq_f h9) (j_iconst (0 : Int32) rfl k32_0 (j_iload rfl rfl (j_iconst (1 : Int32) rfl k32_1 (j_s1 [.int (0 : Int32), .int v4, .int (1 : Int32)] [] rfl rfl rfl rfl rfl (t_Rs_isFrom (by omega) hσ10) (g)))))) ?_
  refine J_ite (fun h12 => ?_) (fun h12 => ?_)
  · exact J_some (fun h => j_if_f rfl (cc_ne_f h12) (j_ldc2 (-1 : Int64) rfl kw_m1 (j_lret rfl rfl h)))
  refine J_ma fun σ13 a14 hσ13 ha14 => ?_
  refine J_bind fun x15 hx15 => ?_
  refine J_bind fun w16 hw16 => ?_
  refine J_cl fun x18 σ17 hσ17 => ?_
  refine J_cl fun _ σ19 hσ19 => ?_
  refine q_J.step (fun g => j_if_t rfl (cc_ne_t h12) (j_newk2 [.long 0, .long 0] rfl rfl rfl hσ13 ha14 (j_dup rfl rfl (j_aload_n rfl rfl (j_gfr rfl hx15 (j_iload_n rfl rfl (j_iload_n rfl rfl (j_iload_n rfl rfl (j_v1 [.ref x15, .int v1, .int v2, .int v3] [.ref a14, .ref a14] rfl rfl rfl rfl rfl rfl hw16 (Or.inl rfl) (t_Li_oddsOfSister (by omega) hσ17) (j_ldc2 (10000000000000000 : Int64) rfl kw_10000000000000000 (j_i0 [.ref a14, .long x18, .long (10000000000000000 : Int64)] [.ref a14] rfl rfl rfl rfl rfl rfl (t_Ra_init (by omega) hσ19) (j_astore [some (.ref v0), some (.int v1), some (.int v2), some (.int v3), some (.int v4), some (.ref a14)] rfl rfl (Or.inr rfl) rfl (j_iload rfl rfl (g)))))))))))))) ?_
  refine J_ite (fun h21 => ?_) (fun h21 => ?_)
  · refine J_bind fun x22 hx22 => ?_
    exact J_some (fun h => j_if_f rfl (cc_ne_f h21) (j_aload rfl rfl (j_gfl rfl hx22 (j_goto rfl (j_lret rfl rfl h)))))
  refine J_bind fun x23 hx23 => ?_
  exact J_some (fun h => j_if_t rfl (cc_ne_t h21) (j_aload rfl rfl (j_gfl rfl hx23 (j_lret rfl rfl h))))
theorem t_Rs_could {fo : Option Nat} {d : Nat} (hd : 3 ≤ d) {v0 : Nat} {v1 : Int32} {v2 : Int32} {v3 : Int32} {v4 : Int32} {σ σ1 : q_H} {r : Int64} (h : f_Rs_could v0 v1 v2 v3 v4 σ = some (r, σ1)) : q_Rel (q_rf fo) q_Ms d 140 [.ref v0, .int v1, .int v2, .int v3, .int v4] σ (.inl (some (.long r))) σ1 := by
  obtain ⟨d, rfl⟩ : ∃ d1, d = d1 + 1 := ⟨d - 1, by omega⟩
  exact q_Rel.of rfl rfl (b_Rs_could hd _ _ _ _ _ σ _ _ h ⟨rfl, rfl⟩)

set_option maxRecDepth 100000 in
theorem l_Rs_sisters_L60 {fo : Option Nat} {d : Nat} (hd : 3 ≤ d + 1) {o : q_O} {σ' : q_H} {E : (Int64 × Int64) → q_H → Prop} (v0 : Nat) (v1 : Int32) (v2 : Int32) (v3 : Int32) (v8 : Int32) (v9 : Option Nat) (hX : ∀ (t : Int64 × Int64) σ1, E (t) σ1 → q_G (q_rf fo) d m_Rs_sisters o σ' 144 [some (.ref v0), some (.int v1), some (.int v2), some (.int v3), some (.long t.1), none, some (.long t.2), none, some (.int v8), none, none, none] [] σ1)  : ∀ (n : Nat) (v4 : Int64) (v6 : Int64) (v10 : Int32) (σ : q_H), q_J E (f_Rs_sisters_L60 v0 v1 v2 v3 v8 v9 n v4 v6 v10 σ) (q_G (q_rf fo) d m_Rs_sisters o σ' 60 [some (.ref v0), some (.int v1), some (.int v2), some (.int v3), some (.long v4), none, some (.long v6), none, some (.int v8), some (q_rf v9), some (.int v10), none] [] σ)
  | 0, v4, v6, v10, σ => J_none
  | n + 1, v4, v6, v10, σ => by
    unfold f_Rs_sisters_L60
    refine q_J.step (fun g => j_aloadO (x := v9) rfl rfl (g)) ?_
    cases ha1 : v9 with
    | none =>
      try subst ha1
      exact J_some (fun h => j_nul_t rfl (j_weak (l := [some (.ref v0), some (.int v1), some (.int v2), some (.int v3), some (.long v4), none, some (.long v6), none, some (.int v8), none, none, none]) (And.intro (Or.inr rfl) (And.intro (Or.inr rfl) (And.intro (Or.inr rfl) (And.intro (Or.inr rfl) (And.intro (Or.inr rfl) (And.intro (Or.inr rfl) (And.intro (Or.inr rfl) (And.intro (Or.inr rfl) (And.intro (Or.inr rfl) (And.intro (Or.inl rfl) (And.intro (Or.inl rfl) (And.intro (Or.inr rfl) True.intro)))))))))))) (hX _ _ h)))
    | some a1 =>
      try subst ha1
      refine J_bind fun x2 hx2 => ?_
      refine q_J.step (fun g => j_nul_f rfl (j_iload rfl rfl (j_aload rfl rfl (j_gfi rfl hx2 (g))))) ?_
      refine J_ite (fun h3 => ?_) (fun h3 => ?_)
      · refine J_bind fun x4 hx4 => ?_
        refine J_bind fun x5 hx5 => ?_
        refine J_bind fun w6 hw6 => ?_
        refine J_cl fun x8 σ7 hσ7 => ?_
        refine q_J.step (fun g => j_icmp_f rfl (cc_ge_f h3) (j_aload rfl rfl (j_gfr rfl hx4 (j_iload rfl rfl (j_ial rfl hx5 (j_istore [some (.ref v0), some (.int v1), some (.int v2), some (.int v3), some (.long v4), none, some (.long v6), none, some (.int v8), some (.ref a1), some (.int v10), some (.int x5)] rfl rfl (Or.inr rfl) rfl (j_aload rfl rfl (j_iload rfl rfl (j_v1 [.ref a1, .int x5] [] rfl rfl rfl rfl rfl rfl hw6 (Or.inl rfl) (t_Pa_has (by omega) hσ7) (g)))))))))) ?_
        refine J_ite (fun h9 => ?_) (fun h9 => ?_)
        · exact q_J.step (fun g => j_if_t rfl (cc_eq_t h9) (j_iinc [some (.ref v0), some (.int v1), some (.int v2), some (.int v3), some (.long v4), none, some (.long v6), none, some (.int v8), some (.ref a1), some (.int (v10 + (1 : Int32))), some (.int x5)] (v10 + (1 : Int32)) rfl rfl (by rw [k32_1]) (Or.inr rfl) rfl (j_goto rfl (j_weak (l := [some (.ref v0), some (.int v1), some (.int v2), some (.int v3), some (.long v4), none, some (.long v6), none, some (.int v8), some (.ref a1), some (.int (v10 + (1 : Int32))), none]) (And.intro (Or.inr rfl) (And.intro (Or.inr rfl) (And.intro (Or.inr rfl) (And.intro (Or.inr rfl) (And.intro (Or.inr rfl) (And.intro (Or.inr rfl) (And.intro (Or.inr rfl) (And.intro (Or.inr rfl) (And.intro (Or.inr rfl) (And.intro (Or.inr rfl) (And.intro (Or.inr rfl) (And.intro (Or.inl rfl) True.intro)))))))))))) (g))))) (l_Rs_sisters_L60 hd v0 v1 v2 v3 v8 (some a1) hX n v4 v6 (v10 + (1 : Int32)) σ7)
        refine J_bind fun x10 hx10 => ?_
        refine J_bind fun x11 hx11 => ?_
        refine J_bind fun x12 hx12 => ?_
        refine J_bind fun w13 hw13 => ?_
        refine J_cl fun x15 σ14 hσ14 => ?_
        refine J_bind fun x16 hx16 => ?_
        refine J_bind fun x17 hx17 => ?_
        refine q_J.step (fun g => j_if_f rfl (cc_eq_f h9) (j_lload rfl rfl (j_aload_n rfl rfl (j_gfr rfl hx10 (j_iload_n rfl rfl (j_aload rfl rfl (j_gfr rfl hx11 (j_iload rfl rfl (j_ial rfl hx12 (j_iload_n rfl rfl (j_v1 [.ref x10, .int v1, .int x12, .int v2] [.long v4] rfl rfl rfl rfl rfl rfl hw13 (Or.inl rfl) (t_Li_oddsOfSister (by omega) hσ14) (j_ladd rfl (j_lstore [some (.ref v0), some (.int v1), some (.int v2), some (.int v3), some (.long (v4 + x15)), none, some (.long v6), none, some (.int v8), some (.ref a1), some (.int v10), some (.int x5)] rfl rfl (Or.inr rfl) rfl (j_lload rfl rfl (g))))))))))))))) ?_
        refine q_J.step (fun g => j_aload rfl rfl (j_gfr rfl hx16 (j_iload rfl rfl (j_ial rfl hx17 (g))))) ?_
        refine J_ite (fun h18 => ?_) (fun h18 => ?_)
        · exact q_J.step (fun g => j_if_f rfl (cc_ne_f h18) (j_lconst (1 : Int64) rfl kl_1 (j_goto rfl (j_ladd rfl (j_lstore [some (.ref v0), some (.int v1), some (.int v2), some (.int v3), some (.long (v4 + x15)), none, some (.long (v6 + (1 : Int64))), none, some (.int v8), some (.ref a1), some (.int v10), some (.int x5)] rfl rfl (Or.inr True.intro) rfl (j_iinc [some (.ref v0), some (.int v1), some (.int v2), some (.int v3), some (.long (v4 + x15)), none, some (.long (v6 + (1 : Int64))), none, some (.int v8), some (.ref a1), some (.int (v10 + (1 : Int32))), some (.int x5)] (v10 + (1 : Int32)) rfl rfl (by rw [k32_1]) (Or.inr rfl) rfl (j_goto rfl (j_weak (l := [some (.ref v0), some (.int v1), some (.int v2), some (.int v3), some (.long (v4 + x15)), none, some (.long (v6 + (1 : Int64))), none, some (.int v8), some (.ref a1), some (.int (v10 + (1 : Int32))), none]) (And.intro (Or.inr rfl) (And.intro (Or.inr rfl) (And.intro (Or.inr rfl) (And.intro (Or.inr rfl) (And.intro (Or.inr rfl) (And.intro (Or.inr rfl) (And.intro (Or.inr rfl) (And.intro (Or.inr rfl) (And.intro (Or.inr rfl) (And.intro (Or.inr rfl) (And.intro (Or.inr rfl) (And.intro (Or.inl rfl) True.intro)))))))))))) (g))))))))) (l_Rs_sisters_L60 hd v0 v1 v2 v3 v8 (some a1) hX n (v4 + x15) (v6 + (1 : Int64)) (v10 + (1 : Int32)) σ14)
        exact q_J.step (fun g => j_if_t rfl (cc_ne_t h18) (j_lconst (0 : Int64) rfl kl_0 (j_ladd rfl (j_lstore [some (.ref v0), some (.int v1), some (.int v2), some (.int v3), some (.long (v4 + x15)), none, some (.long (v6 + (0 : Int64))), none, some (.int v8), some (.ref a1), some (.int v10), some (.int x5)] rfl rfl (Or.inr True.intro) rfl (j_iinc [some (.ref v0), some (.int v1), some (.int v2), some (.int v3), some (.long (v4 + x15)), none, some (.long (v6 + (0 : Int64))), none, some (.int v8), some (.ref a1), some (.int (v10 + (1 : Int32))), some (.int x5)] (v10 + (1 : Int32)) rfl rfl (by rw [k32_1]) (Or.inr rfl) rfl (j_goto rfl (j_weak (l := [some (.ref v0), some (.int v1), some (.int v2), some (.int v3), some (.long (v4 + x15)), none, some (.long (v6 + (0 : Int64))), none, some (.int v8), some (.ref a1), some (.int (v10 + (1 : Int32))), none]) (And.intro (Or.inr rfl) (And.intro (Or.inr rfl) (And.intro (Or.inr rfl) (And.intro (Or.inr rfl) (And.intro (Or.inr rfl) (And.intro (Or.inr rfl) (And.intro (Or.inr rfl) (And.intro (Or.inr rfl) (And.intro (Or.inr rfl) (And.intro (Or.inr rfl) (And.intro (Or.inr rfl) (And.intro (Or.inl rfl) True.intro)))))))))))) (g)))))))) (l_Rs_sisters_L60 hd v0 v1 v2 v3 v8 (some a1) hX n (v4 + x15) (v6 + (0 : Int64)) (v10 + (1 : Int32)) σ14)
      exact J_some (fun h => j_icmp_t rfl (cc_ge_t h3) (j_weak (l := [some (.ref v0), some (.int v1), some (.int v2), some (.int v3), some (.long v4), none, some (.long v6), none, some (.int v8), none, none, none]) (And.intro (Or.inr rfl) (And.intro (Or.inr rfl) (And.intro (Or.inr rfl) (And.intro (Or.inr rfl) (And.intro (Or.inr rfl) (And.intro (Or.inr rfl) (And.intro (Or.inr rfl) (And.intro (Or.inr rfl) (And.intro (Or.inr rfl) (And.intro (Or.inl rfl) (And.intro (Or.inl rfl) (And.intro (Or.inr rfl) True.intro)))))))))))) (hX _ _ h)))

set_option maxRecDepth 100000 in
theorem l_Rs_sisters_L39 {fo : Option Nat} {d : Nat} (hd : 3 ≤ d + 1) {o : q_O} {σ' : q_H} {E : (Int64 × Int64) → q_H → Prop} (v0 : Nat) (v1 : Int32) (v2 : Int32) (v3 : Int32) (hX : ∀ (t : Int64 × Int64) σ1, E (t) σ1 → q_G (q_rf fo) d m_Rs_sisters o σ' 150 [none, none, none, some (.int v3), some (.long t.1), none, some (.long t.2), none, none, none, none, none] [] σ1)  : ∀ (n : Nat) (v4 : Int64) (v6 : Int64) (v8 : Int32) (σ : q_H), q_J E (f_Rs_sisters_L39 v0 v1 v2 v3 n v4 v6 v8 σ) (q_G (q_rf fo) d m_Rs_sisters o σ' 39 [some (.ref v0), some (.int v1), some (.int v2), some (.int v3), some (.long v4), none, some (.long v6), none, some (.int v8), none, none, none] [] σ)
  | 0, v4, v6, v8, σ => J_none
  | n + 1, v4, v6, v8, σ => by
    unfold f_Rs_sisters_L39
    refine q_J.step (fun g => j_iload rfl rfl (j_bipush (24 : Int32) rfl kb_24 (g))) ?_
    refine J_ite (fun h1 => ?_) (fun h1 => ?_)
    · refine J_bind fun x2 hx2 => ?_
      refine J_bind fun w3 hw3 => ?_
      refine J_cl fun x5 σ4 hσ4 => ?_
      refine J_sq (fun (t6 : Int64 × Int64) (σ7 : q_H) => q_G (q_rf fo) d m_Rs_sisters o σ' 144 [some (.ref v0), some (.int v1), some (.int v2), some (.int v3), some (.long t6.1), none, some (.long t6.2), none, some (.int v8), none, none, none] [] σ7) (q_J.step (fun g => j_icmp_f rfl (cc_ge_f h1) (j_aload_n rfl rfl (j_gfr rfl hx2 (j_iload rfl rfl (j_v1 [.ref x2, .int v8] [] rfl rfl rfl rfl rfl rfl hw3 (Or.inl rfl) (t_Sf_pageOf (by omega) hσ4) (j_astoreO (x := x5) [some (.ref v0), some (.int v1), some (.int v2), some (.int v3), some (.long v4), none, some (.long v6), none, some (.int v8), some (q_rf x5), none, none] rfl rfl (Or.inr rfl) rfl (j_iconst (0 : Int32) rfl k32_0 (j_istore [some (.ref v0), some (.int v1), some (.int v2), some (.int v3), some (.long v4), none, some (.long v6), none, some (.int v8), some (q_rf x5), some (.int (0 : Int32)), none] rfl rfl (Or.inr (q_rf_cat _)) rfl (g))))))))) (l_Rs_sisters_L60 hd v0 v1 v2 v3 v8 x5 (fun _ _ h => h) q_FU v4 v6 (0 : Int32) σ4)) (fun t6 σ7 => ?_)
      exact q_J.step (fun g => j_iinc [some (.ref v0), some (.int v1), some (.int v2), some (.int v3), some (.long t6.1), none, some (.long t6.2), none, some (.int (v8 + (1 : Int32))), none, none, none] (v8 + (1 : Int32)) rfl rfl (by rw [k32_1]) (Or.inr True.intro) rfl (j_goto rfl (g))) (l_Rs_sisters_L39 hd v0 v1 v2 v3 hX n t6.1 t6.2 (v8 + (1 : Int32)) σ7)
    exact J_some (fun h => j_icmp_t rfl (cc_ge_t h1) (j_weak (l := [none, none, none, some (.int v3), some (.long v4), none, some (.long v6), none, none, none, none, none]) (And.intro (Or.inl rfl) (And.intro (Or.inl rfl) (And.intro (Or.inl rfl) (And.intro (Or.inr rfl) (And.intro (Or.inr rfl) (And.intro (Or.inr rfl) (And.intro (Or.inr rfl) (And.intro (Or.inr rfl) (And.intro (Or.inl rfl) (And.intro (Or.inr rfl) (And.intro (Or.inr rfl) (And.intro (Or.inr rfl) True.intro)))))))))))) (hX _ _ h)))

set_option maxRecDepth 100000 in
theorem b_Rs_sisters {fo : Option Nat} {d : Nat} (hd : 3 ≤ d + 1) {o : q_O} {σ' : q_H} (v0 : Nat) (v1 : Int32) (v2 : Int32) (v3 : Int32) (σ : q_H) : q_J (fun (r : Int64) (σ1 : q_H) => o = .inl (some (.long r)) ∧ σ' = σ1) (f_Rs_sisters v0 v1 v2 v3 σ) (q_G (q_rf fo) d m_Rs_sisters o σ' 0 [some (.ref v0), some (.int v1), some (.int v2), some (.int v3), none, none, none, none, none, none, none, none] [] σ) := by
  unfold f_Rs_sisters
  refine J_cl fun x2 σ1 hσ1 => ?_
  refine q_J.step (fun g => j_iload_n rfl rfl (j_s1 [.int v1] [] rfl rfl rfl rfl rfl (t_Rs_isTable (by omega) hσ1) (g))) ?_
  refine J_ite (fun h3 => ?_) (fun h3 => ?_)
  · exact J_some (fun h => j_if_t rfl (cc_eq_t h3) (j_ldc2 (-1 : Int64) rfl kw_m1 (j_lret rfl rfl h)))
  refine J_cl fun x5 σ4 hσ4 => ?_
  refine q_J.step (fun g => j_if_f rfl (cc_eq_f h3) (j_iconst (0 : Int32) rfl k32_0 (j_iload_n rfl rfl (j_bipush (30 : Int32) rfl kb_30 (j_s1 [.int (0 : Int32), .int v2, .int (30 : Int32)] [] rfl rfl rfl rfl rfl (t_Rs_isFrom (by omega) hσ4) (g)))))) ?_
  refine J_ite (fun h6 => ?_) (fun h6 => ?_)
  · exact J_some (fun h => j_if_t rfl (cc_eq_t h6) (j_ldc2 (-1 : Int64) rfl kw_m1 (j_lret rfl rfl h)))
  refine J_cl fun x8 σ7 hσ7 => ?_
  refine q_J.step (fun g => j_if_f rfl (cc_eq_f h6) (j_iconst (0 : Int32) rfl k32_0 (j_iload_n rfl rfl (j_iconst (1 : Int32) rfl k32_1 (j_s1 [.int (0 : Int32), .int v3, .int (1 : Int32)] [] rfl rfl rfl rfl rfl (t_Rs_isFrom (by omega) hσ7) (g)))))) ?_
  refine J_ite (fun h9 => ?_) (fun h9 => ?_)
  · exact J_some (fun h => j_if_f rfl (cc_ne_f h9) (j_ldc2 (-1 : Int64) rfl kw_m1 (j_lret rfl rfl h)))
  refine J_sq (fun (t10 : Int64 × Int64) (σ11 : q_H) => q_G (q_rf fo) d m_Rs_sisters o σ' 150 [none, none, none, some (.int v3), some (.long t10.1), none, some (.long t10.2), none, none, none, none, none] [] σ11) (q_J.step (fun g => j_if_t rfl (cc_ne_t h9) (j_lconst (0 : Int64) rfl kl_0 (j_lstore [some (.ref v0), some (.int v1), some (.int v2), some (.int v3), some (.long (0 : Int64)), none, none, none, none, none, none, none] rfl rfl (Or.inr rfl) rfl (j_lconst (0 : Int64) rfl kl_0 (j_lstore [some (.ref v0), some (.int v1), some (.int v2), some (.int v3), some (.long (0 : Int64)), none, some (.long (0 : Int64)), none, none, none, none, none] rfl rfl (Or.inr True.intro) rfl (j_iconst (0 : Int32) rfl k32_0 (j_istore [some (.ref v0), some (.int v1), some (.int v2), some (.int v3), some (.long (0 : Int64)), none, some (.long (0 : Int64)), none, some (.int (0 : Int32)), none, none, none] rfl rfl (Or.inr True.intro) rfl (g)))))))) (l_Rs_sisters_L39 hd v0 v1 v2 v3 (fun _ _ h => h) q_FU (0 : Int64) (0 : Int64) (0 : Int32) σ7)) (fun t10 σ11 => ?_)
  refine q_J.step (fun g => j_iload_n rfl rfl (g)) ?_
  refine J_ite (fun h12 => ?_) (fun h12 => ?_)
  · exact J_some (fun h => j_if_f rfl (cc_ne_f h12) (j_lload rfl rfl (j_lret rfl rfl h)))
  refine q_J.step (fun g => j_if_t rfl (cc_ne_t h12) (j_lload rfl rfl (j_ldc2 (10000000000000000 : Int64) rfl kw_10000000000000000 (j_lmul rfl (j_lload rfl rfl (j_lsub rfl (j_lstore [none, none, none, some (.int v3), some (.long t10.1), none, some (.long t10.2), none, some (.long ((t10.2 * (10000000000000000 : Int64)) - t10.1)), none, none, none] rfl rfl (Or.inr True.intro) rfl (j_lload rfl rfl (j_lconst (0 : Int64) rfl kl_0 (j_lcmp rfl (g))))))))))) ?_
  refine J_ite (fun h13 => ?_) (fun h13 => ?_)
  · exact J_some (fun h => j_if_t rfl (lc_gt_t h13) (j_lload rfl rfl (j_ldc2 (10000000000000000 : Int64) rfl kw_10000000000000000 (j_ladd rfl (j_lconst (1 : Int64) rfl kl_1 (j_lsub rfl (j_ldc2 (10000000000000000 : Int64) rfl kw_10000000000000000 (j_ldiv rfl (by decide) (j_lret rfl rfl h)))))))))
  exact J_some (fun h => j_if_f rfl (lc_gt_f h13) (j_lconst (0 : Int64) rfl kl_0 (j_goto rfl (j_lret rfl rfl h))))
theorem t_Rs_sisters {fo : Option Nat} {d : Nat} (hd : 3 ≤ d) {v0 : Nat} {v1 : Int32} {v2 : Int32} {v3 : Int32} {σ σ1 : q_H} {r : Int64} (h : f_Rs_sisters v0 v1 v2 v3 σ = some (r, σ1)) : q_Rel (q_rf fo) q_Ms d 141 [.ref v0, .int v1, .int v2, .int v3] σ (.inl (some (.long r))) σ1 := by
  obtain ⟨d, rfl⟩ : ∃ d1, d = d1 + 1 := ⟨d - 1, by omega⟩
  exact q_Rel.of rfl rfl (b_Rs_sisters hd _ _ _ _ σ _ _ h ⟨rfl, rfl⟩)

set_option maxRecDepth 100000 in
theorem b_Rs_fillFacts {fo : Option Nat} {d : Nat} (hd : 3 ≤ d + 1) {o : q_O} {σ' : q_H} (v0 : Nat) (v1 : Int32) (v2 : Nat) (v3 : Int32) (σ : q_H) : q_J (fun (r : Unit) (σ1 : q_H) => o = .inl none ∧ σ' = σ1) (f_Rs_fillFacts v0 v1 v2 v3 σ) (q_G (q_rf fo) d m_Rs_fillFacts o σ' 0 [some (.ref v0), some (.int v1), some (.ref v2), some (.int v3), none, none] [] σ) := by
  unfold f_Rs_fillFacts
  refine J_bind fun x1 hx1 => ?_
  refine J_bind fun x2 hx2 => ?_
  refine J_bind fun w3 hw3 => ?_
  refine J_cl fun x5 σ4 hσ4 => ?_
  refine q_J.step (fun g => j_aload_n rfl rfl (j_gfr rfl hx1 (j_iload_n rfl rfl (j_ial rfl hx2 (j_istore [some (.ref v0), some (.int v1), some (.ref v2), some (.int v3), some (.int x2), none] rfl rfl (Or.inr rfl) rfl (j_aload_n rfl rfl (j_iload rfl rfl (j_v1 [.ref v2, .int x2] [] rfl rfl rfl rfl rfl rfl hw3 (Or.inl rfl) (t_Pa_has (by omega) hσ4) (g))))))))) ?_
  refine J_ite (fun h6 => ?_) (fun h6 => ?_)
  · exact J_some (fun h => j_if_f rfl (cc_ne_f h6) (j_vret rfl rfl h))
  refine J_bind fun x7 hx7 => ?_
  refine J_bind fun x8 hx8 => ?_
  refine J_bind fun x9 hx9 => ?_
  refine J_bind fun x10 hx10 => ?_
  refine J_bind fun x11 hx11 => ?_
  refine J_bind fun x12 hx12 => ?_
  refine J_bind fun x13 hx13 => ?_
  refine J_bind fun x14 hx14 => ?_
  refine J_bind fun σ15 hσ15 => ?_
  refine J_bind fun x16 hx16 => ?_
  refine J_bind fun x17 hx17 => ?_
  refine J_bind fun x18 hx18 => ?_
  refine J_bind fun σ19 hσ19 => ?_
  refine J_bind fun x20 hx20 => ?_
  refine J_bind fun x21 hx21 => ?_
  refine J_bind fun x22 hx22 => ?_
  refine J_bind fun σ23 hσ23 => ?_
  refine J_bind fun x24 hx24 => ?_
  refine J_bind fun x25 hx25 => ?_
  refine J_bind fun x26 hx26 => ?_
  refine q_J.step (fun g => j_if_t rfl (cc_ne_t h6) (j_aload_n rfl rfl (j_gfr rfl hx7 (j_gfr rfl hx8 (j_iload_n rfl rfl (j_ial rfl hx9 (j_istore [some (.ref v0), some (.int v1), some (.ref v2), some (.int v3), some (.int x2), some (.int x9)] rfl rfl (Or.inr rfl) rfl (j_aload_n rfl rfl (j_gfr rfl hx10 (j_iconst (0 : Int32) rfl k32_0 (j_aload_n rfl rfl (j_gfr rfl hx11 (j_iload rfl rfl (j_ial rfl hx12 (g))))))))))))))) ?_
  refine q_J.step (fun g => j_aload_n rfl rfl (j_gfr rfl hx13 (j_iload_n rfl rfl (j_ial rfl hx14 (j_isub rfl (j_ias rfl hσ15 (j_aload_n rfl rfl (j_gfr rfl hx16 (j_iconst (1 : Int32) rfl k32_1 (j_aload_n rfl rfl (j_gfr rfl hx17 (j_iload rfl rfl (j_ial rfl hx18 (j_ias rfl hσ19 (g))))))))))))))) ?_
  refine q_J.step (fun g => j_aload_n rfl rfl (j_gfr rfl hx20 (j_iconst (2 : Int32) rfl k32_2 (j_aload_n rfl rfl (j_gfr rfl hx21 (j_iload_n rfl rfl (j_ial rfl hx22 (j_ias rfl hσ23 (j_aload_n rfl rfl (j_gfr rfl hx24 (j_iconst (3 : Int32) rfl k32_3 (j_aload_n rfl rfl (j_gfr rfl hx25 (j_iload_n rfl rfl (g))))))))))))))) ?_
  refine q_J.step (fun g => j_ial rfl hx26 (g)) ?_
  refine J_sq (fun (t28 : Int32) (σ29 : q_H) => q_G (q_rf fo) d m_Rs_fillFacts o σ' 93 [some (.ref v0), some (.int v1), some (.ref v2), some (.int v3), some (.int x2), some (.int x9)] [.int t28, .int (3 : Int32), .ref x24] σ29) ?_ (fun t28 σ29 => ?_)
  · refine J_ite (fun h27 => ?_) (fun h27 => ?_)
    · exact J_some (fun h => j_if_f rfl (cc_ne_f h27) (j_iconst (1 : Int32) rfl k32_1 (j_goto rfl (h))))
    exact J_some (fun h => j_if_t rfl (cc_ne_t h27) (j_iconst (0 : Int32) rfl k32_0 (h)))
  refine J_bind fun σ30 hσ30 => ?_
  refine J_bind fun x31 hx31 => ?_
  refine J_bind fun x32 hx32 => ?_
  refine J_bind fun x33 hx33 => ?_
  refine q_J.step (fun g => j_ias rfl hσ30 (j_aload_n rfl rfl (j_gfr rfl hx31 (j_iconst (4 : Int32) rfl k32_4 (j_aload_n rfl rfl (j_gfr rfl hx32 (j_iload_n rfl rfl (j_ial rfl hx33 (j_iconst (1 : Int32) rfl k32_1 (g)))))))))) ?_
  refine J_sq (fun (t35 : Int32) (σ36 : q_H) => q_G (q_rf fo) d m_Rs_fillFacts o σ' 114 [some (.ref v0), some (.int v1), some (.ref v2), some (.int v3), some (.int x2), some (.int x9)] [.int t35, .int (4 : Int32), .ref x31] σ36) ?_ (fun t35 σ36 => ?_)
  · refine J_ite (fun h34 => ?_) (fun h34 => ?_)
    · exact J_some (fun h => j_icmp_f rfl (cc_ne_f h34) (j_iconst (1 : Int32) rfl k32_1 (j_goto rfl (h))))
    exact J_some (fun h => j_icmp_t rfl (cc_ne_t h34) (j_iconst (0 : Int32) rfl k32_0 (h)))
  refine J_bind fun σ37 hσ37 => ?_
  refine J_bind fun x38 hx38 => ?_
  refine J_bind fun x39 hx39 => ?_
  refine J_bind fun x40 hx40 => ?_
  refine q_J.step (fun g => j_ias rfl hσ37 (j_aload_n rfl rfl (j_gfr rfl hx38 (j_iconst (5 : Int32) rfl k32_5 (j_aload_n rfl rfl (j_gfr rfl hx39 (j_iload_n rfl rfl (j_ial rfl hx40 (j_iconst (2 : Int32) rfl k32_2 (g)))))))))) ?_
  refine J_sq (fun (t42 : Int32) (σ43 : q_H) => q_G (q_rf fo) d m_Rs_fillFacts o σ' 135 [some (.ref v0), some (.int v1), some (.ref v2), some (.int v3), some (.int x2), some (.int x9)] [.int t42, .int (5 : Int32), .ref x38] σ43) ?_ (fun t42 σ43 => ?_)
  · refine J_ite (fun h41 => ?_) (fun h41 => ?_)
    · exact J_some (fun h => j_icmp_f rfl (cc_ne_f h41) (j_iconst (1 : Int32) rfl k32_1 (j_goto rfl (h))))
    exact J_some (fun h => j_icmp_t rfl (cc_ne_t h41) (j_iconst (0 : Int32) rfl k32_0 (h)))
  refine J_bind fun σ44 hσ44 => ?_
  refine J_bind fun x45 hx45 => ?_
  refine J_bind fun x46 hx46 => ?_
  refine J_bind fun x47 hx47 => ?_
  refine q_J.step (fun g => j_ias rfl hσ44 (j_aload_n rfl rfl (j_gfr rfl hx45 (j_bipush (6 : Int32) rfl kb_6 (j_aload_n rfl rfl (j_gfr rfl hx46 (j_iload_n rfl rfl (j_ial rfl hx47 (j_iconst (3 : Int32) rfl k32_3 (g)))))))))) ?_
  refine J_sq (fun (t49 : Int32) (σ50 : q_H) => q_G (q_rf fo) d m_Rs_fillFacts o σ' 157 [some (.ref v0), some (.int v1), some (.ref v2), some (.int v3), some (.int x2), some (.int x9)] [.int t49, .int (6 : Int32), .ref x45] σ50) ?_ (fun t49 σ50 => ?_)
  · refine J_ite (fun h48 => ?_) (fun h48 => ?_)
    · exact J_some (fun h => j_icmp_f rfl (cc_ne_f h48) (j_iconst (1 : Int32) rfl k32_1 (j_goto rfl (h))))
    exact J_some (fun h => j_icmp_t rfl (cc_ne_t h48) (j_iconst (0 : Int32) rfl k32_0 (h)))
  refine J_bind fun σ51 hσ51 => ?_
  refine J_bind fun x52 hx52 => ?_
  refine J_bind fun x53 hx53 => ?_
  refine J_bind fun x54 hx54 => ?_
  refine J_bind fun σ55 hσ55 => ?_
  refine J_bind fun x56 hx56 => ?_
  refine J_bind fun w57 hw57 => ?_
  refine J_cl fun x59 σ58 hσ58 => ?_
  refine J_bind fun σ60 hσ60 => ?_
  refine J_bind fun x61 hx61 => ?_
  refine J_bind fun w62 hw62 => ?_
  refine J_cl fun x64 σ63 hσ63 => ?_
  refine J_bind fun σ65 hσ65 => ?_
  refine J_bind fun x66 hx66 => ?_
  refine J_bind fun σ67 hσ67 => ?_
  refine J_bind fun x68 hx68 => ?_
  refine J_bind fun x69 hx69 => ?_
  refine J_bind fun x70 hx70 => ?_
  refine J_bind fun x71 hx71 => ?_
  refine J_bind fun σ72 hσ72 => ?_
  refine J_bind fun x73 hx73 => ?_
  refine J_bind fun x74 hx74 => ?_
  refine J_bind fun x75 hx75 => ?_
  refine J_bind fun x76 hx76 => ?_
  refine J_bind fun σ77 hσ77 => ?_
  exact J_some (fun h => j_ias rfl hσ51 (j_aload_n rfl rfl (j_gfr rfl hx52 (j_bipush (7 : Int32) rfl kb_7 (j_iconst (0 : Int32) rfl k32_0 (j_aload_n rfl rfl (j_gfr rfl hx53 (j_iload_n rfl rfl (j_ial rfl hx54 (j_max rfl rfl (j_ias rfl hσ55 (j_aload_n rfl rfl (j_gfr rfl hx56 (j_bipush (8 : Int32) rfl kb_8 (j_aload_n rfl rfl (j_iload_n rfl rfl (j_iload rfl rfl (j_iconst (0 : Int32) rfl k32_0 (j_v1 [.ref v2, .int v3, .int x2, .int (0 : Int32)] [.int (8 : Int32), .ref x56] rfl rfl rfl rfl rfl rfl hw57 (Or.inl rfl) (t_Pa_fullOthers (by omega) hσ58) (j_ias rfl hσ60 (j_aload_n rfl rfl (j_gfr rfl hx61 (j_bipush (9 : Int32) rfl kb_9 (j_aload_n rfl rfl (j_iload rfl rfl (j_iload_n rfl rfl (j_iconst (1 : Int32) rfl k32_1 (j_v1 [.ref v2, .int x2, .int v3, .int (1 : Int32)] [.int (9 : Int32), .ref x61] rfl rfl rfl rfl rfl rfl hw62 (Or.inl rfl) (t_Pa_fullOthers (by omega) hσ63) (j_ias rfl hσ65 (j_aload_n rfl rfl (j_gfr rfl hx66 (j_bipush (10 : Int32) rfl kb_10 (j_iload rfl rfl (j_ias rfl hσ67 (j_aload_n rfl rfl (j_gfr rfl hx68 (j_bipush (11 : Int32) rfl kb_11 (j_aload_n rfl rfl (j_gfr rfl hx69 (j_gfr rfl hx70 (j_iload rfl rfl (j_ial rfl hx71 (j_ias rfl hσ72 (j_aload_n rfl rfl (j_gfr rfl hx73 (j_bipush (12 : Int32) rfl kb_12 (j_aload_n rfl rfl (j_gfr rfl hx74 (j_gfr rfl hx75 (j_iload_n rfl rfl (j_ial rfl hx76 (j_ias rfl hσ77 (j_vret rfl rfl h)))))))))))))))))))))))))))))))))))))))))))))))))))))
theorem t_Rs_fillFacts {fo : Option Nat} {d : Nat} (hd : 3 ≤ d) {v0 : Nat} {v1 : Int32} {v2 : Nat} {v3 : Int32} {σ σ1 : q_H} {r : Unit} (h : f_Rs_fillFacts v0 v1 v2 v3 σ = some (r, σ1)) : q_Rel (q_rf fo) q_Ms d 146 [.ref v0, .int v1, .ref v2, .int v3] σ (.inl none) σ1 := by
  obtain ⟨d, rfl⟩ : ∃ d1, d = d1 + 1 := ⟨d - 1, by omega⟩
  exact q_Rel.of rfl rfl (b_Rs_fillFacts hd _ _ _ _ σ _ _ h ⟨rfl, rfl⟩)

set_option maxRecDepth 100000 in
theorem b_Rs_isWorld {fo : Option Nat} {d : Nat} (hd : 3 ≤ d + 1) {o : q_O} {σ' : q_H} (v0 : Int32) (v1 : Int32) (v2 : Int32) (v3 : Int32) (σ : q_H) : q_J (fun (r : Int32) (σ1 : q_H) => o = .inl (some (.int r)) ∧ σ' = σ1) (f_Rs_isWorld v0 v1 v2 v3 σ) (q_G (q_rf fo) d m_Rs_isWorld o σ' 0 [some (.int v0), some (.int v1), some (.int v2), some (.int v3)] [] σ) := by
  unfold f_Rs_isWorld
  refine J_cl fun x2 σ1 hσ1 => ?_
  refine q_J.step (fun g => j_iconst (1 : Int32) rfl k32_1 (j_iload_n rfl rfl (j_bipush (40 : Int32) rfl kb_40 (j_s1 [.int (1 : Int32), .int v0, .int (40 : Int32)] [] rfl rfl rfl rfl rfl (t_Rs_isFrom (by omega) hσ1) (g))))) ?_
  refine J_ite (fun h3 => ?_) (fun h3 => ?_)
  · exact J_some (fun h => j_if_t rfl (cc_eq_t h3) (j_iconst (0 : Int32) rfl k32_0 (j_iret rfl (q_zr (Or.inl rfl)) h)))
  refine J_cl fun x5 σ4 hσ4 => ?_
  refine q_J.step (fun g => j_if_f rfl (cc_eq_f h3) (j_iload_n rfl rfl (j_s1 [.int v1] [] rfl rfl rfl rfl rfl (t_Rs_isTable (by omega) hσ4) (g)))) ?_
  refine J_ite (fun h6 => ?_) (fun h6 => ?_)
  · exact J_some (fun h => j_if_t rfl (cc_eq_t h6) (j_iconst (0 : Int32) rfl k32_0 (j_iret rfl (q_zr (Or.inl rfl)) h)))
  refine J_cl fun x8 σ7 hσ7 => ?_
  refine q_J.step (fun g => j_if_f rfl (cc_eq_f h6) (j_iconst (0 : Int32) rfl k32_0 (j_iload_n rfl rfl (j_bipush (30 : Int32) rfl kb_30 (j_s1 [.int (0 : Int32), .int v2, .int (30 : Int32)] [] rfl rfl rfl rfl rfl (t_Rs_isFrom (by omega) hσ7) (g)))))) ?_
  refine J_ite (fun h9 => ?_) (fun h9 => ?_)
  · exact J_some (fun h => j_if_t rfl (cc_eq_t h9) (j_iconst (0 : Int32) rfl k32_0 (j_iret rfl (q_zr (Or.inl rfl)) h)))
  refine J_cl fun x11 σ10 hσ10 => ?_
  refine q_J.step (fun g => j_if_f rfl (cc_eq_f h9) (j_iconst (0 : Int32) rfl k32_0 (j_iload_n rfl rfl (j_bipush (10 : Int32) rfl kb_10 (j_s1 [.int (0 : Int32), .int v3, .int (10 : Int32)] [] rfl rfl rfl rfl rfl (t_Rs_isFrom (by omega) hσ10) (g)))))) ?_
  refine J_ite (fun h12 => ?_) (fun h12 => ?_)
  · exact J_some (fun h => j_if_t rfl (cc_eq_t h12) (j_iconst (0 : Int32) rfl k32_0 (j_iret rfl (q_zr (Or.inl rfl)) h)))
  exact J_some (fun h => j_if_f rfl (cc_eq_f h12) (j_iconst (1 : Int32) rfl k32_1 (j_goto rfl (j_iret rfl (q_zr (Or.inr rfl)) h))))
theorem t_Rs_isWorld {fo : Option Nat} {d : Nat} (hd : 3 ≤ d) {v0 : Int32} {v1 : Int32} {v2 : Int32} {v3 : Int32} {σ σ1 : q_H} {r : Int32} (h : f_Rs_isWorld v0 v1 v2 v3 σ = some (r, σ1)) : q_Rel (q_rf fo) q_Ms d 152 [.int v0, .int v1, .int v2, .int v3] σ (.inl (some (.int r))) σ1 := by
  obtain ⟨d, rfl⟩ : ∃ d1, d = d1 + 1 := ⟨d - 1, by omega⟩
  exact q_Rel.of rfl rfl (b_Rs_isWorld hd _ _ _ _ σ _ _ h ⟨rfl, rfl⟩)

set_option maxRecDepth 100000 in
theorem l_Rs_unfreeMarriages_L22 {fo : Option Nat} {d : Nat} (hd : 3 ≤ d + 1) {o : q_O} {σ' : q_H} {E : (Int32) → q_H → Prop} (v0 : Nat) (v2 : Int32) (v3 : Option Nat) (hX : ∀ (t : Int32) σ1, E (t) σ1 → q_G (q_rf fo) d m_Rs_unfreeMarriages o σ' 88 [some (.ref v0), some (.int t), some (.int v2), none, none, none] [] σ1)  : ∀ (n : Nat) (v1 : Int32) (v4 : Int32) (σ : q_H), q_J E (f_Rs_unfreeMarriages_L22 v0 v2 v3 n v1 v4 σ) (q_G (q_rf fo) d m_Rs_unfreeMarriages o σ' 22 [some (.ref v0), some (.int v1), some (.int v2), some (q_rf v3), some (.int v4), none] [] σ)
  | 0, v1, v4, σ => J_none
  | n + 1, v1, v4, σ => by
    unfold f_Rs_unfreeMarriages_L22
    refine q_J.step (fun g => j_aload_nO (x := v3) rfl rfl (g)) ?_
    cases ha1 : v3 with
    | none =>
      try subst ha1
      exact J_some (fun h => j_nul_t rfl (j_weak (l := [some (.ref v0), some (.int v1), some (.int v2), none, none, none]) (And.intro (Or.inr rfl) (And.intro (Or.inr rfl) (And.intro (Or.inr rfl) (And.intro (Or.inl rfl) (And.intro (Or.inl rfl) (And.intro (Or.inr rfl) True.intro)))))) (hX _ _ h)))
    | some a1 =>
      try subst ha1
      refine J_bind fun x2 hx2 => ?_
      refine q_J.step (fun g => j_nul_f rfl (j_iload rfl rfl (j_aload_n rfl rfl (j_gfi rfl hx2 (g))))) ?_
      refine J_ite (fun h3 => ?_) (fun h3 => ?_)
      · refine J_bind fun x4 hx4 => ?_
        refine J_bind fun x5 hx5 => ?_
        refine J_bind fun w6 hw6 => ?_
        refine J_cl fun x8 σ7 hσ7 => ?_
        refine q_J.step (fun g => j_icmp_f rfl (cc_ge_f h3) (j_aload_n rfl rfl (j_gfr rfl hx4 (j_iload rfl rfl (j_ial rfl hx5 (j_istore [some (.ref v0), some (.int v1), some (.int v2), some (.ref a1), some (.int v4), some (.int x5)] rfl rfl (Or.inr rfl) rfl (j_aload_n rfl rfl (j_iload rfl rfl (j_v1 [.ref a1, .int x5] [] rfl rfl rfl rfl rfl rfl hw6 (Or.inl rfl) (t_Pa_has (by omega) hσ7) (g)))))))))) ?_
        refine J_ite (fun h9 => ?_) (fun h9 => ?_)
        · exact q_J.step (fun g => j_if_t rfl (cc_eq_t h9) (j_iinc [some (.ref v0), some (.int v1), some (.int v2), some (.ref a1), some (.int (v4 + (1 : Int32))), some (.int x5)] (v4 + (1 : Int32)) rfl rfl (by rw [k32_1]) (Or.inr rfl) rfl (j_goto rfl (j_weak (l := [some (.ref v0), some (.int v1), some (.int v2), some (.ref a1), some (.int (v4 + (1 : Int32))), none]) (And.intro (Or.inr rfl) (And.intro (Or.inr rfl) (And.intro (Or.inr rfl) (And.intro (Or.inr rfl) (And.intro (Or.inr rfl) (And.intro (Or.inl rfl) True.intro)))))) (g))))) (l_Rs_unfreeMarriages_L22 hd v0 v2 (some a1) hX n v1 (v4 + (1 : Int32)) σ7)
        refine J_bind fun x10 hx10 => ?_
        refine J_bind fun x11 hx11 => ?_
        refine J_bind fun x12 hx12 => ?_
        refine J_bind fun x13 hx13 => ?_
        refine q_J.step (fun g => j_if_f rfl (cc_eq_f h9) (j_iload_n rfl rfl (j_aload_n rfl rfl (j_gfr rfl hx10 (j_iload rfl rfl (j_ial rfl hx11 (j_aload_n rfl rfl (j_gfr rfl hx12 (j_iload rfl rfl (j_ial rfl hx13 (j_ior rfl (j_bipush (12 : Int32) rfl kb_12 (j_iand rfl (g)))))))))))))) ?_
        refine J_ite (fun h14 => ?_) (fun h14 => ?_)
        · exact q_J.step (fun g => j_if_t rfl (cc_eq_t h14) (j_iconst (0 : Int32) rfl k32_0 (j_iadd rfl (j_istore_n [some (.ref v0), some (.int (v1 + (0 : Int32))), some (.int v2), some (.ref a1), some (.int v4), some (.int x5)] rfl rfl (Or.inr rfl) rfl (j_iinc [some (.ref v0), some (.int (v1 + (0 : Int32))), some (.int v2), some (.ref a1), some (.int (v4 + (1 : Int32))), some (.int x5)] (v4 + (1 : Int32)) rfl rfl (by rw [k32_1]) (Or.inr rfl) rfl (j_goto rfl (j_weak (l := [some (.ref v0), some (.int (v1 + (0 : Int32))), some (.int v2), some (.ref a1), some (.int (v4 + (1 : Int32))), none]) (And.intro (Or.inr rfl) (And.intro (Or.inr rfl) (And.intro (Or.inr rfl) (And.intro (Or.inr rfl) (And.intro (Or.inr rfl) (And.intro (Or.inl rfl) True.intro)))))) (g)))))))) (l_Rs_unfreeMarriages_L22 hd v0 v2 (some a1) hX n (v1 + (0 : Int32)) (v4 + (1 : Int32)) σ7)
        exact q_J.step (fun g => j_if_f rfl (cc_eq_f h14) (j_iconst (1 : Int32) rfl k32_1 (j_goto rfl (j_iadd rfl (j_istore_n [some (.ref v0), some (.int (v1 + (1 : Int32))), some (.int v2), some (.ref a1), some (.int v4), some (.int x5)] rfl rfl (Or.inr rfl) rfl (j_iinc [some (.ref v0), some (.int (v1 + (1 : Int32))), some (.int v2), some (.ref a1), some (.int (v4 + (1 : Int32))), some (.int x5)] (v4 + (1 : Int32)) rfl rfl (by rw [k32_1]) (Or.inr rfl) rfl (j_goto rfl (j_weak (l := [some (.ref v0), some (.int (v1 + (1 : Int32))), some (.int v2), some (.ref a1), some (.int (v4 + (1 : Int32))), none]) (And.intro (Or.inr rfl) (And.intro (Or.inr rfl) (And.intro (Or.inr rfl) (And.intro (Or.inr rfl) (And.intro (Or.inr rfl) (And.intro (Or.inl rfl) True.intro)))))) (g))))))))) (l_Rs_unfreeMarriages_L22 hd v0 v2 (some a1) hX n (v1 + (1 : Int32)) (v4 + (1 : Int32)) σ7)
      exact J_some (fun h => j_icmp_t rfl (cc_ge_t h3) (j_weak (l := [some (.ref v0), some (.int v1), some (.int v2), none, none, none]) (And.intro (Or.inr rfl) (And.intro (Or.inr rfl) (And.intro (Or.inr rfl) (And.intro (Or.inl rfl) (And.intro (Or.inl rfl) (And.intro (Or.inr rfl) True.intro)))))) (hX _ _ h)))

set_option maxRecDepth 100000 in
theorem l_Rs_unfreeMarriages_L4 {fo : Option Nat} {d : Nat} (hd : 3 ≤ d + 1) {o : q_O} {σ' : q_H} {E : (Int32) → q_H → Prop} (v0 : Nat) (hX : ∀ (t : Int32) σ1, E (t) σ1 → q_G (q_rf fo) d m_Rs_unfreeMarriages o σ' 94 [none, some (.int t), none, none, none, none] [] σ1)  : ∀ (n : Nat) (v1 : Int32) (v2 : Int32) (σ : q_H), q_J E (f_Rs_unfreeMarriages_L4 v0 n v1 v2 σ) (q_G (q_rf fo) d m_Rs_unfreeMarriages o σ' 4 [some (.ref v0), some (.int v1), some (.int v2), none, none, none] [] σ)
  | 0, v1, v2, σ => J_none
  | n + 1, v1, v2, σ => by
    unfold f_Rs_unfreeMarriages_L4
    refine q_J.step (fun g => j_iload_n rfl rfl (j_bipush (24 : Int32) rfl kb_24 (g))) ?_
    refine J_ite (fun h1 => ?_) (fun h1 => ?_)
    · refine J_bind fun x2 hx2 => ?_
      refine J_bind fun w3 hw3 => ?_
      refine J_cl fun x5 σ4 hσ4 => ?_
      refine J_sq (fun (t6 : Int32) (σ7 : q_H) => q_G (q_rf fo) d m_Rs_unfreeMarriages o σ' 88 [some (.ref v0), some (.int t6), some (.int v2), none, none, none] [] σ7) (q_J.step (fun g => j_icmp_f rfl (cc_ge_f h1) (j_aload_n rfl rfl (j_gfr rfl hx2 (j_iload_n rfl rfl (j_v1 [.ref x2, .int v2] [] rfl rfl rfl rfl rfl rfl hw3 (Or.inl rfl) (t_Sf_pageOf (by omega) hσ4) (j_astore_nO (x := x5) [some (.ref v0), some (.int v1), some (.int v2), some (q_rf x5), none, none] rfl rfl (Or.inr rfl) rfl (j_iconst (0 : Int32) rfl k32_0 (j_istore [some (.ref v0), some (.int v1), some (.int v2), some (q_rf x5), some (.int (0 : Int32)), none] rfl rfl (Or.inr (q_rf_cat _)) rfl (g))))))))) (l_Rs_unfreeMarriages_L22 hd v0 v2 x5 (fun _ _ h => h) q_FU v1 (0 : Int32) σ4)) (fun t6 σ7 => ?_)
      exact q_J.step (fun g => j_iinc [some (.ref v0), some (.int t6), some (.int (v2 + (1 : Int32))), none, none, none] (v2 + (1 : Int32)) rfl rfl (by rw [k32_1]) (Or.inr rfl) rfl (j_goto rfl (g))) (l_Rs_unfreeMarriages_L4 hd v0 hX n t6 (v2 + (1 : Int32)) σ7)
    exact J_some (fun h => j_icmp_t rfl (cc_ge_t h1) (j_weak (l := [none, some (.int v1), none, none, none, none]) (And.intro (Or.inl rfl) (And.intro (Or.inr rfl) (And.intro (Or.inl rfl) (And.intro (Or.inr rfl) (And.intro (Or.inr rfl) (And.intro (Or.inr rfl) True.intro)))))) (hX _ _ h)))

set_option maxRecDepth 100000 in
theorem b_Rs_unfreeMarriages {fo : Option Nat} {d : Nat} (hd : 3 ≤ d + 1) {o : q_O} {σ' : q_H} (v0 : Nat) (σ : q_H) : q_J (fun (r : Int32) (σ1 : q_H) => o = .inl (some (.int r)) ∧ σ' = σ1) (f_Rs_unfreeMarriages v0 σ) (q_G (q_rf fo) d m_Rs_unfreeMarriages o σ' 0 [some (.ref v0), none, none, none, none, none] [] σ) := by
  unfold f_Rs_unfreeMarriages
  refine J_sq (fun (t1 : Int32) (σ2 : q_H) => q_G (q_rf fo) d m_Rs_unfreeMarriages o σ' 94 [none, some (.int t1), none, none, none, none] [] σ2) (q_J.step (fun g => j_iconst (0 : Int32) rfl k32_0 (j_istore_n [some (.ref v0), some (.int (0 : Int32)), none, none, none, none] rfl rfl (Or.inr rfl) rfl (j_iconst (0 : Int32) rfl k32_0 (j_istore_n [some (.ref v0), some (.int (0 : Int32)), some (.int (0 : Int32)), none, none, none] rfl rfl (Or.inr rfl) rfl (g))))) (l_Rs_unfreeMarriages_L4 hd v0 (fun _ _ h => h) q_FU (0 : Int32) (0 : Int32) σ)) (fun t1 σ2 => ?_)
  exact J_some (fun h => j_iload_n rfl rfl (j_iret rfl rfl h))
theorem t_Rs_unfreeMarriages {fo : Option Nat} {d : Nat} (hd : 3 ≤ d) {v0 : Nat} {σ σ1 : q_H} {r : Int32} (h : f_Rs_unfreeMarriages v0 σ = some (r, σ1)) : q_Rel (q_rf fo) q_Ms d 164 [.ref v0] σ (.inl (some (.int r))) σ1 := by
  obtain ⟨d, rfl⟩ : ∃ d1, d = d1 + 1 := ⟨d - 1, by omega⟩
  exact q_Rel.of rfl rfl (b_Rs_unfreeMarriages hd _ σ _ _ h ⟨rfl, rfl⟩)

set_option maxRecDepth 100000 in
theorem l_Pa_settle_L2 {fo : Option Nat} {d : Nat} (hd : 4 ≤ d + 1) {o : q_O} {σ' : q_H} {E : (Unit) → q_H → Prop} (v0 : Nat) (hX : ∀ (t : Unit) σ1, E (t) σ1 → q_G (q_rf fo) d m_Pa_settle o σ' 100 [none, none] [] σ1)  : ∀ (n : Nat) (v1 : Int32) (σ : q_H), q_J E (f_Pa_settle_L2 v0 n v1 σ) (q_G (q_rf fo) d m_Pa_settle o σ' 2 [some (.ref v0), some (.int v1)] [] σ)
  | 0, v1, σ => J_none
  | n + 1, v1, σ => by
    unfold f_Pa_settle_L2
    refine J_bind fun x1 hx1 => ?_
    refine q_J.step (fun g => j_iload_n rfl rfl (j_aload_n rfl rfl (j_gfi rfl hx1 (g)))) ?_
    refine J_ite (fun h2 => ?_) (fun h2 => ?_)
    · refine J_bind fun x3 hx3 => ?_
      refine J_bind fun σ4 hσ4 => ?_
      refine J_bind fun x5 hx5 => ?_
      refine J_bind fun σ6 hσ6 => ?_
      refine J_bind fun x7 hx7 => ?_
      refine J_bind fun x8 hx8 => ?_
      refine J_bind fun w9 hw9 => ?_
      refine J_cl fun x11 σ10 hσ10 => ?_
      refine q_J.step (fun g => j_icmp_f rfl (cc_ge_f h2) (j_aload_n rfl rfl (j_gfr rfl hx3 (j_iload_n rfl rfl (j_iconst (-1 : Int32) rfl k32_m1 (j_ias rfl hσ4 (j_aload_n rfl rfl (j_gfr rfl hx5 (j_iload_n rfl rfl (j_iconst (-1 : Int32) rfl k32_m1 (j_ias rfl hσ6 (j_aload_n rfl rfl (j_aload_n rfl rfl (j_gfr rfl hx7 (g))))))))))))))) ?_
      refine q_J.step (fun g => j_iload_n rfl rfl (j_ial rfl hx8 (j_v1 [.ref v0, .int x8] [] rfl rfl rfl rfl rfl rfl hw9 (Or.inl rfl) (t_Pa_has (by omega) hσ10) (g)))) ?_
      refine J_ite (fun h12 => ?_) (fun h12 => ?_)
      · exact q_J.step (fun g => j_if_t rfl (cc_eq_t h12) (j_iinc [some (.ref v0), some (.int (v1 + (1 : Int32)))] (v1 + (1 : Int32)) rfl rfl (by rw [k32_1]) (Or.inr rfl) rfl (j_goto rfl (g)))) (l_Pa_settle_L2 hd v0 hX n (v1 + (1 : Int32)) σ10)
      refine J_bind fun x13 hx13 => ?_
      refine J_bind fun x14 hx14 => ?_
      refine J_bind fun x15 hx15 => ?_
      refine J_bind fun w16 hw16 => ?_
      refine J_cl fun x18 σ17 hσ17 => ?_
      refine J_bind fun σ19 hσ19 => ?_
      refine J_bind fun x20 hx20 => ?_
      refine J_bind fun x21 hx21 => ?_
      refine J_bind fun x22 hx22 => ?_
      refine J_bind fun w23 hw23 => ?_
      refine J_cl fun x25 σ24 hσ24 => ?_
      refine J_bind fun σ26 hσ26 => ?_
      refine J_bind fun x27 hx27 => ?_
      refine J_bind fun x28 hx28 => ?_
      refine J_bind fun x29 hx29 => ?_
      refine J_bind fun x30 hx30 => ?_
      refine J_bind fun x31 hx31 => ?_
      refine J_bind fun w32 hw32 => ?_
      refine J_cl fun _ σ33 hσ33 => ?_
      exact q_J.step (fun g => j_if_f rfl (cc_eq_f h12) (j_aload_n rfl rfl (j_gfr rfl hx13 (j_iload_n rfl rfl (j_aload_n rfl rfl (j_iload_n rfl rfl (j_aload_n rfl rfl (j_gfr rfl hx14 (j_iload_n rfl rfl (j_ial rfl hx15 (j_v1 [.ref v0, .int v1, .int x15] [.int v1, .ref x13] rfl rfl rfl rfl rfl rfl hw16 (Or.inl rfl) (t_Pa_sortOf (by omega) hσ17) (j_ias rfl hσ19 (j_aload_n rfl rfl (j_gfr rfl hx20 (j_iload_n rfl rfl (j_aload_n rfl rfl (j_iload_n rfl rfl (j_aload_n rfl rfl (j_gfr rfl hx21 (j_iload_n rfl rfl (j_ial rfl hx22 (j_v1 [.ref v0, .int v1, .int x22] [.int v1, .ref x20] rfl rfl rfl rfl rfl rfl hw23 (Or.inl rfl) (t_Pa_adoptedOf (by omega) hσ24) (j_ias rfl hσ26 (j_aload_n rfl rfl (j_gfr rfl hx27 (j_aload_n rfl rfl (j_gfr rfl hx28 (j_iload_n rfl rfl (j_ial rfl hx29 (j_iconst (0 : Int32) rfl k32_0 (j_aload_n rfl rfl (j_gfr rfl hx30 (j_iload_n rfl rfl (j_ial rfl hx31 (j_max rfl rfl (j_v0 [.ref x27, .int x29, .int (if (0 : Int32) < x31 then x31 else (0 : Int32))] [] rfl rfl rfl rfl rfl rfl hw32 (Or.inl rfl) (t_Ty_put (by omega) hσ33) (j_iinc [some (.ref v0), some (.int (v1 + (1 : Int32)))] (v1 + (1 : Int32)) rfl rfl (by rw [k32_1]) (Or.inr rfl) rfl (j_goto rfl (g))))))))))))))))))))))))))))))))))))))) (l_Pa_settle_L2 hd v0 hX n (v1 + (1 : Int32)) σ33)
    exact J_some (fun h => j_icmp_t rfl (cc_ge_t h2) (j_weak (l := [none, none]) (And.intro (Or.inl rfl) (And.intro (Or.inl rfl) True.intro)) (hX _ _ h)))

set_option maxRecDepth 100000 in
theorem b_Pa_settle {fo : Option Nat} {d : Nat} (hd : 4 ≤ d + 1) {o : q_O} {σ' : q_H} (v0 : Nat) (σ : q_H) : q_J (fun (r : Unit) (σ1 : q_H) => o = .inl none ∧ σ' = σ1) (f_Pa_settle v0 σ) (q_G (q_rf fo) d m_Pa_settle o σ' 0 [some (.ref v0), none] [] σ) := by
  unfold f_Pa_settle
  refine J_sq (fun (t1 : Unit) (σ2 : q_H) => q_G (q_rf fo) d m_Pa_settle o σ' 100 [none, none] [] σ2) (q_J.step (fun g => j_iconst (0 : Int32) rfl k32_0 (j_istore_n [some (.ref v0), some (.int (0 : Int32))] rfl rfl (Or.inr rfl) rfl (g))) (l_Pa_settle_L2 hd v0 (fun _ _ h => h) q_FU (0 : Int32) σ)) (fun t1 σ2 => ?_)
  exact J_some (fun h => j_vret rfl rfl h)
theorem t_Pa_settle {fo : Option Nat} {d : Nat} (hd : 4 ≤ d) {v0 : Nat} {σ σ1 : q_H} {r : Unit} (h : f_Pa_settle v0 σ = some (r, σ1)) : q_Rel (q_rf fo) q_Ms d 63 [.ref v0] σ (.inl none) σ1 := by
  obtain ⟨d, rfl⟩ : ∃ d1, d = d1 + 1 := ⟨d - 1, by omega⟩
  exact q_Rel.of rfl rfl (b_Pa_settle hd _ σ _ _ h ⟨rfl, rfl⟩)

set_option maxRecDepth 100000 in
theorem l_Sf_marriagesOf_L4 {fo : Option Nat} {d : Nat} (hd : 4 ≤ d + 1) {o : q_O} {σ' : q_H} {E : (Int32) → q_H → Prop} (v0 : Nat) (v1 : Int32) (hX : ∀ (t : Int32) σ1, E (t) σ1 → q_G (q_rf fo) d m_Sf_marriagesOf o σ' 46 [none, none, some (.int t), none, none] [] σ1)  : ∀ (n : Nat) (v2 : Int32) (v3 : Int32) (σ : q_H), q_J E (f_Sf_marriagesOf_L4 v0 v1 n v2 v3 σ) (q_G (q_rf fo) d m_Sf_marriagesOf o σ' 4 [some (.ref v0), some (.int v1), some (.int v2), some (.int v3), none] [] σ)
  | 0, v2, v3, σ => J_none
  | n + 1, v2, v3, σ => by
    unfold f_Sf_marriagesOf_L4
    refine q_J.step (fun g => j_iload_n rfl rfl (j_bipush (24 : Int32) rfl kb_24 (g))) ?_
    refine J_ite (fun h1 => ?_) (fun h1 => ?_)
    · refine J_bind fun w2 hw2 => ?_
      refine J_cl fun x4 σ3 hσ3 => ?_
      refine q_J.step (fun g => j_icmp_f rfl (cc_ge_f h1) (j_aload_n rfl rfl (j_iload_n rfl rfl (j_iconst (1 : Int32) rfl k32_1 (j_iload_n rfl rfl (j_v1 [.ref v0, .int v3, .int (1 : Int32), .int v1] [] rfl rfl rfl rfl rfl rfl hw2 (Or.inl rfl) (t_Sf_pageWithin (by omega) hσ3) (j_astoreO (x := x4) [some (.ref v0), some (.int v1), some (.int v2), some (.int v3), some (q_rf x4)] rfl rfl (Or.inr rfl) rfl (j_iload_n rfl rfl (j_aloadO (x := x4) rfl rfl (g)))))))))) ?_
      cases ha5 : x4 with
      | none =>
        try subst ha5
        exact q_J.step (fun g => j_nul_t rfl (j_iconst (0 : Int32) rfl k32_0 (j_iadd rfl (j_istore_n [some (.ref v0), some (.int v1), some (.int (v2 + (0 : Int32))), some (.int v3), some (.null)] rfl rfl (Or.inr rfl) rfl (j_iinc [some (.ref v0), some (.int v1), some (.int (v2 + (0 : Int32))), some (.int (v3 + (1 : Int32))), some (.null)] (v3 + (1 : Int32)) rfl rfl (by rw [k32_1]) (Or.inr rfl) rfl (j_goto rfl (j_weak (l := [some (.ref v0), some (.int v1), some (.int (v2 + (0 : Int32))), some (.int (v3 + (1 : Int32))), none]) (And.intro (Or.inr rfl) (And.intro (Or.inr rfl) (And.intro (Or.inr rfl) (And.intro (Or.inr rfl) (And.intro (Or.inl rfl) True.intro))))) (g)))))))) (l_Sf_marriagesOf_L4 hd v0 v1 hX n (v2 + (0 : Int32)) (v3 + (1 : Int32)) σ3)
      | some a5 =>
        try subst ha5
        refine J_bind fun x6 hx6 => ?_
        refine J_bind fun w7 hw7 => ?_
        refine J_cl fun x9 σ8 hσ8 => ?_
        exact q_J.step (fun g => j_nul_f rfl (j_aload rfl rfl (j_gfr rfl hx6 (j_iconst (0 : Int32) rfl k32_0 (j_v1 [.ref x6, .int (0 : Int32)] [.int v2] rfl rfl rfl rfl rfl rfl hw7 (Or.inl rfl) (t_Ty_all (by omega) hσ8) (j_goto rfl (j_iadd rfl (j_istore_n [some (.ref v0), some (.int v1), some (.int (v2 + x9)), some (.int v3), some (.ref a5)] rfl rfl (Or.inr rfl) rfl (j_iinc [some (.ref v0), some (.int v1), some (.int (v2 + x9)), some (.int (v3 + (1 : Int32))), some (.ref a5)] (v3 + (1 : Int32)) rfl rfl (by rw [k32_1]) (Or.inr rfl) rfl (j_goto rfl (j_weak (l := [some (.ref v0), some (.int v1), some (.int (v2 + x9)), some (.int (v3 + (1 : Int32))), none]) (And.intro (Or.inr rfl) (And.intro (Or.inr rfl) (And.intro (Or.inr rfl) (And.intro (Or.inr rfl) (And.intro (Or.inl rfl) True.intro))))) (g)))))))))))) (l_Sf_marriagesOf_L4 hd v0 v1 hX n (v2 + x9) (v3 + (1 : Int32)) σ8)
    exact J_some (fun h => j_icmp_t rfl (cc_ge_t h1) (j_weak (l := [none, none, some (.int v2), none, none]) (And.intro (Or.inl rfl) (And.intro (Or.inl rfl) (And.intro (Or.inr rfl) (And.intro (Or.inl rfl) (And.intro (Or.inr rfl) True.intro))))) (hX _ _ h)))

set_option maxRecDepth 100000 in
theorem b_Sf_marriagesOf {fo : Option Nat} {d : Nat} (hd : 4 ≤ d + 1) {o : q_O} {σ' : q_H} (v0 : Nat) (v1 : Int32) (σ : q_H) : q_J (fun (r : Int32) (σ1 : q_H) => o = .inl (some (.int r)) ∧ σ' = σ1) (f_Sf_marriagesOf v0 v1 σ) (q_G (q_rf fo) d m_Sf_marriagesOf o σ' 0 [some (.ref v0), some (.int v1), none, none, none] [] σ) := by
  unfold f_Sf_marriagesOf
  refine J_sq (fun (t1 : Int32) (σ2 : q_H) => q_G (q_rf fo) d m_Sf_marriagesOf o σ' 46 [none, none, some (.int t1), none, none] [] σ2) (q_J.step (fun g => j_iconst (0 : Int32) rfl k32_0 (j_istore_n [some (.ref v0), some (.int v1), some (.int (0 : Int32)), none, none] rfl rfl (Or.inr rfl) rfl (j_iconst (0 : Int32) rfl k32_0 (j_istore_n [some (.ref v0), some (.int v1), some (.int (0 : Int32)), some (.int (0 : Int32)), none] rfl rfl (Or.inr rfl) rfl (g))))) (l_Sf_marriagesOf_L4 hd v0 v1 (fun _ _ h => h) q_FU (0 : Int32) (0 : Int32) σ)) (fun t1 σ2 => ?_)
  exact J_some (fun h => j_iload_n rfl rfl (j_iret rfl rfl h))
theorem t_Sf_marriagesOf {fo : Option Nat} {d : Nat} (hd : 4 ≤ d) {v0 : Nat} {v1 : Int32} {σ σ1 : q_H} {r : Int32} (h : f_Sf_marriagesOf v0 v1 σ = some (r, σ1)) : q_Rel (q_rf fo) q_Ms d 85 [.ref v0, .int v1] σ (.inl (some (.int r))) σ1 := by
  obtain ⟨d, rfl⟩ : ∃ d1, d = d1 + 1 := ⟨d - 1, by omega⟩
  exact q_Rel.of rfl rfl (b_Sf_marriagesOf hd _ _ σ _ _ h ⟨rfl, rfl⟩)

set_option maxRecDepth 100000 in
theorem b_Sf_lineThatIsOne {fo : Option Nat} {d : Nat} (hd : 4 ≤ d + 1) {o : q_O} {σ' : q_H} (v0 : Nat) (v1 : Int32) (v2 : Int32) (v3 : Int32) (σ : q_H) : q_J (fun (r : Int32) (σ1 : q_H) => o = .inl (some (.int r)) ∧ σ' = σ1) (f_Sf_lineThatIsOne v0 v1 v2 v3 σ) (q_G (q_rf fo) d m_Sf_lineThatIsOne o σ' 0 [some (.ref v0), some (.int v1), some (.int v2), some (.int v3), none, none] [] σ) := by
  unfold f_Sf_lineThatIsOne
  refine J_bind fun w1 hw1 => ?_
  refine J_cl fun x3 σ2 hσ2 => ?_
  refine J_bind fun w4 hw4 => ?_
  refine J_cl fun x6 σ5 hσ5 => ?_
  refine q_J.step (fun g => j_aload_n rfl rfl (j_iload_n rfl rfl (j_v1 [.ref v0, .int v1] [] rfl rfl rfl rfl rfl rfl hw1 (Or.inl rfl) (t_Sf_pageOf (by omega) hσ2) (j_astoreO (x := x3) [some (.ref v0), some (.int v1), some (.int v2), some (.int v3), some (q_rf x3), none] rfl rfl (Or.inr rfl) rfl (j_aload_n rfl rfl (j_iload_n rfl rfl (j_v1 [.ref v0, .int v3] [] rfl rfl rfl rfl rfl rfl hw4 (Or.inl rfl) (t_Sf_pageOf (by omega) hσ5) (j_astoreO (x := x6) [some (.ref v0), some (.int v1), some (.int v2), some (.int v3), some (q_rf x3), some (q_rf x6)] rfl rfl (Or.inr (q_rf_cat _)) rfl (j_aloadO (x := x3) rfl rfl (g)))))))))) ?_
  cases ha7 : x3 with
  | none =>
    try subst ha7
    exact J_some (fun h => j_nul_t rfl (j_iconst (-1 : Int32) rfl k32_m1 (j_iret rfl rfl h)))
  | some a7 =>
    try subst ha7
    refine q_J.step (fun g => j_nul_f rfl (j_aloadO (x := x6) rfl rfl (g))) ?_
    cases ha8 : x6 with
    | none =>
      try subst ha8
      exact J_some (fun h => j_nul_t rfl (j_iconst (-1 : Int32) rfl k32_m1 (j_iret rfl rfl h)))
    | some a8 =>
      try subst ha8
      refine J_bind fun w9 hw9 => ?_
      refine J_cl fun x11 σ10 hσ10 => ?_
      refine q_J.step (fun g => j_nul_f rfl (j_aload rfl rfl (j_iload_n rfl rfl (j_v1 [.ref a7, .int v2] [] rfl rfl rfl rfl rfl rfl hw9 (Or.inl rfl) (t_Pa_has (by omega) hσ10) (g))))) ?_
      refine J_ite (fun h12 => ?_) (fun h12 => ?_)
      · exact J_some (fun h => j_if_t rfl (cc_eq_t h12) (j_iconst (-1 : Int32) rfl k32_m1 (j_iret rfl rfl h)))
      refine J_bind fun w13 hw13 => ?_
      refine J_cl fun x15 σ14 hσ14 => ?_
      refine q_J.step (fun g => j_if_f rfl (cc_eq_f h12) (j_aload_n rfl rfl (j_iload_n rfl rfl (j_iload_n rfl rfl (j_v1 [.ref v0, .int v1, .int v3] [] rfl rfl rfl rfl rfl rfl hw13 (Or.inl rfl) (t_Sf_canShareLines (by omega) hσ14) (g)))))) ?_
      refine J_ite (fun h16 => ?_) (fun h16 => ?_)
      · exact J_some (fun h => j_if_f rfl (cc_ne_f h16) (j_iconst (-1 : Int32) rfl k32_m1 (j_iret rfl rfl h)))
      refine J_bind fun w17 hw17 => ?_
      refine J_cl fun x19 σ18 hσ18 => ?_
      exact J_some (fun h => j_if_t rfl (cc_ne_t h16) (j_aload_n rfl rfl (j_iload_n rfl rfl (j_aload rfl rfl (j_iload_n rfl rfl (j_iload_n rfl rfl (j_aload rfl rfl (j_v1 [.ref v0, .int v1, .ref a7, .int v2, .int v3, .ref a8] [] rfl rfl rfl rfl rfl rfl hw17 (Or.inl rfl) (t_Sf_match (by omega) hσ18) (j_iret rfl rfl h)))))))))
theorem t_Sf_lineThatIsOne {fo : Option Nat} {d : Nat} (hd : 4 ≤ d) {v0 : Nat} {v1 : Int32} {v2 : Int32} {v3 : Int32} {σ σ1 : q_H} {r : Int32} (h : f_Sf_lineThatIsOne v0 v1 v2 v3 σ = some (r, σ1)) : q_Rel (q_rf fo) q_Ms d 86 [.ref v0, .int v1, .int v2, .int v3] σ (.inl (some (.int r))) σ1 := by
  obtain ⟨d, rfl⟩ : ∃ d1, d = d1 + 1 := ⟨d - 1, by omega⟩
  exact q_Rel.of rfl rfl (b_Sf_lineThatIsOne hd _ _ _ _ σ _ _ h ⟨rfl, rfl⟩)

set_option maxRecDepth 100000 in
theorem l_Ho_join_L41 {fo : Option Nat} {d : Nat} (hd : 4 ≤ d + 1) {o : q_O} {σ' : q_H} {E : (Int32) → q_H → Prop} (v0 : Nat) (v1 : Nat) (v2 : Int32) (v3 : Int32) (v4 : Nat) (v5 : Nat) (hX : ∀ (t : Int32) σ1, E (t) σ1 → q_G (q_rf fo) d m_Ho_join o σ' 138 [none, none, none, none, none, none, some (.int t), none, none] [] σ1)  : ∀ (n : Nat) (v6 : Int32) (v7 : Int32) (σ : q_H), q_J E (f_Ho_join_L41 v0 v1 v2 v3 v4 v5 n v6 v7 σ) (q_G (q_rf fo) d m_Ho_join o σ' 41 [some (.ref v0), some (.ref v1), some (.int v2), some (.int v3), some (.ref v4), some (.ref v5), some (.int v6), some (.int v7), none] [] σ)
  | 0, v6, v7, σ => J_none
  | n + 1, v6, v7, σ => by
    unfold f_Ho_join_L41
    refine J_bind fun x1 hx1 => ?_
    refine q_J.step (fun g => j_iload rfl rfl (j_aload rfl rfl (j_gfi rfl hx1 (g)))) ?_
    refine J_ite (fun h2 => ?_) (fun h2 => ?_)
    · refine J_bind fun w3 hw3 => ?_
      refine J_cl fun x5 σ4 hσ4 => ?_
      refine q_J.step (fun g => j_icmp_f rfl (cc_ge_f h2) (j_aload_n rfl rfl (j_iload_n rfl rfl (j_aload rfl rfl (j_iload rfl rfl (j_iload_n rfl rfl (j_aload rfl rfl (j_v1 [.ref v1, .int v2, .ref v4, .int v7, .int v3, .ref v5] [] rfl rfl rfl rfl rfl rfl hw3 (Or.inl rfl) (t_Sf_match (by omega) hσ4) (j_istore [some (.ref v0), some (.ref v1), some (.int v2), some (.int v3), some (.ref v4), some (.ref v5), some (.int v6), some (.int v7), some (.int x5)] rfl rfl (Or.inr rfl) rfl (j_iload rfl rfl (j_iconst (-1 : Int32) rfl k32_m1 (g)))))))))))) ?_
      refine J_ite (fun h6 => ?_) (fun h6 => ?_)
      · exact q_J.step (fun g => j_icmp_t rfl (cc_eq_t h6) (j_iinc [some (.ref v0), some (.ref v1), some (.int v2), some (.int v3), some (.ref v4), some (.ref v5), some (.int v6), some (.int (v7 + (1 : Int32))), some (.int x5)] (v7 + (1 : Int32)) rfl rfl (by rw [k32_1]) (Or.inr rfl) rfl (j_goto rfl (j_weak (l := [some (.ref v0), some (.ref v1), some (.int v2), some (.int v3), some (.ref v4), some (.ref v5), some (.int v6), some (.int (v7 + (1 : Int32))), none]) (And.intro (Or.inr rfl) (And.intro (Or.inr rfl) (And.intro (Or.inr rfl) (And.intro (Or.inr rfl) (And.intro (Or.inr rfl) (And.intro (Or.inr rfl) (And.intro (Or.inr rfl) (And.intro (Or.inr rfl) (And.intro (Or.inl rfl) True.intro))))))))) (g))))) (l_Ho_join_L41 hd v0 v1 v2 v3 v4 v5 hX n v6 (v7 + (1 : Int32)) σ4)
      refine J_bind fun w7 hw7 => ?_
      refine J_cl fun x9 σ8 hσ8 => ?_
      refine J_bind fun w10 hw10 => ?_
      refine J_cl fun x12 σ11 hσ11 => ?_
      refine J_bind fun w13 hw13 => ?_
      refine J_cl fun _ σ14 hσ14 => ?_
      refine J_bind fun w16 hw16 => ?_
      refine J_cl fun x18 σ17 hσ17 => ?_
      refine J_bind fun w19 hw19 => ?_
      refine J_cl fun x21 σ20 hσ20 => ?_
      refine J_bind fun w22 hw22 => ?_
      refine J_cl fun _ σ23 hσ23 => ?_
      exact q_J.step (fun g => j_icmp_f rfl (cc_eq_f h6) (j_iinc [some (.ref v0), some (.ref v1), some (.int v2), some (.int v3), some (.ref v4), some (.ref v5), some (.int (v6 + (1 : Int32))), some (.int v7), some (.int x5)] (v6 + (1 : Int32)) rfl rfl (by rw [k32_1]) (Or.inr rfl) rfl (j_aload_n rfl rfl (j_iload_n rfl rfl (j_bipush (12 : Int32) rfl kb_12 (j_imul rfl (j_iload rfl rfl (j_iadd rfl (j_aload_n rfl rfl (j_iload_n rfl rfl (j_aload rfl rfl (j_iload rfl rfl (j_v1 [.ref v1, .int v3, .ref v5, .int x5] [.int ((v2 * (12 : Int32)) + v7), .ref v0] rfl rfl rfl rfl rfl rfl hw7 (Or.inl rfl) (t_Sf_firstBorn (by omega) hσ8) (j_aload_n rfl rfl (j_iload_n rfl rfl (j_aload rfl rfl (j_iload rfl rfl (j_v1 [.ref v1, .int v3, .ref v5, .int x5] [.int x9, .int ((v2 * (12 : Int32)) + v7), .ref v0] rfl rfl rfl rfl rfl rfl hw10 (Or.inl rfl) (t_Sf_lastBorn (by omega) hσ11) (j_v0 [.ref v0, .int ((v2 * (12 : Int32)) + v7), .int x9, .int x12] [] rfl rfl rfl rfl rfl rfl hw13 (Or.inl rfl) (t_Ho_narrow (by omega) hσ14) (j_aload_n rfl rfl (j_iload_n rfl rfl (j_bipush (12 : Int32) rfl kb_12 (j_imul rfl (j_iload rfl rfl (j_iadd rfl (j_aload_n rfl rfl (j_iload_n rfl rfl (j_aload rfl rfl (j_iload rfl rfl (j_v1 [.ref v1, .int v2, .ref v4, .int v7] [.int ((v3 * (12 : Int32)) + x5), .ref v0] rfl rfl rfl rfl rfl rfl hw16 (Or.inl rfl) (t_Sf_firstBorn (by omega) hσ17) (j_aload_n rfl rfl (j_iload_n rfl rfl (j_aload rfl rfl (j_iload rfl rfl (j_v1 [.ref v1, .int v2, .ref v4, .int v7] [.int x18, .int ((v3 * (12 : Int32)) + x5), .ref v0] rfl rfl rfl rfl rfl rfl hw19 (Or.inl rfl) (t_Sf_lastBorn (by omega) hσ20) (j_v0 [.ref v0, .int ((v3 * (12 : Int32)) + x5), .int x18, .int x21] [] rfl rfl rfl rfl rfl rfl hw22 (Or.inl rfl) (t_Ho_narrow (by omega) hσ23) (j_iinc [some (.ref v0), some (.ref v1), some (.int v2), some (.int v3), some (.ref v4), some (.ref v5), some (.int (v6 + (1 : Int32))), some (.int (v7 + (1 : Int32))), some (.int x5)] (v7 + (1 : Int32)) rfl rfl (by rw [k32_1]) (Or.inr rfl) rfl (j_goto rfl (j_weak (l := [some (.ref v0), some (.ref v1), some (.int v2), some (.int v3), some (.ref v4), some (.ref v5), some (.int (v6 + (1 : Int32))), some (.int (v7 + (1 : Int32))), none]) (And.intro (Or.inr rfl) (And.intro (Or.inr rfl) (And.intro (Or.inr rfl) (And.intro (Or.inr rfl) (And.intro (Or.inr rfl) (And.intro (Or.inr rfl) (And.intro (Or.inr rfl) (And.intro (Or.inr rfl) (And.intro (Or.inl rfl) True.intro))))))))) (g)))))))))))))))))))))))))))))))))))))))) (l_Ho_join_L41 hd v0 v1 v2 v3 v4 v5 hX n (v6 + (1 : Int32)) (v7 + (1 : Int32)) σ23)
    exact J_some (fun h => j_icmp_t rfl (cc_ge_t h2) (j_weak (l := [none, none, none, none, none, none, some (.int v6), none, none]) (And.intro (Or.inl rfl) (And.intro (Or.inl rfl) (And.intro (Or.inl rfl) (And.intro (Or.inl rfl) (And.intro (Or.inl rfl) (And.intro (Or.inl rfl) (And.intro (Or.inr rfl) (And.intro (Or.inl rfl) (And.intro (Or.inr rfl) True.intro))))))))) (hX _ _ h)))

set_option maxRecDepth 100000 in
theorem b_Ho_join {fo : Option Nat} {d : Nat} (hd : 4 ≤ d + 1) {o : q_O} {σ' : q_H} (v0 : Nat) (v1 : Nat) (v2 : Int32) (v3 : Int32) (σ : q_H) : q_J (fun (r : Int32) (σ1 : q_H) => o = .inl (some (.int r)) ∧ σ' = σ1) (f_Ho_join v0 v1 v2 v3 σ) (q_G (q_rf fo) d m_Ho_join o σ' 0 [some (.ref v0), some (.ref v1), some (.int v2), some (.int v3), none, none, none, none, none] [] σ) := by
  unfold f_Ho_join
  refine J_bind fun w1 hw1 => ?_
  refine J_cl fun x3 σ2 hσ2 => ?_
  refine J_bind fun w4 hw4 => ?_
  refine J_cl fun x6 σ5 hσ5 => ?_
  refine q_J.step (fun g => j_aload_n rfl rfl (j_iload_n rfl rfl (j_v1 [.ref v1, .int v2] [] rfl rfl rfl rfl rfl rfl hw1 (Or.inl rfl) (t_Sf_pageOf (by omega) hσ2) (j_astoreO (x := x3) [some (.ref v0), some (.ref v1), some (.int v2), some (.int v3), some (q_rf x3), none, none, none, none] rfl rfl (Or.inr rfl) rfl (j_aload_n rfl rfl (j_iload_n rfl rfl (j_v1 [.ref v1, .int v3] [] rfl rfl rfl rfl rfl rfl hw4 (Or.inl rfl) (t_Sf_pageOf (by omega) hσ5) (j_astoreO (x := x6) [some (.ref v0), some (.ref v1), some (.int v2), some (.int v3), some (q_rf x3), some (q_rf x6), none, none, none] rfl rfl (Or.inr (q_rf_cat _)) rfl (j_aloadO (x := x3) rfl rfl (g)))))))))) ?_
  cases ha7 : x3 with
  | none =>
    try subst ha7
    exact J_some (fun h => j_nul_t rfl (j_iconst (0 : Int32) rfl k32_0 (j_iret rfl rfl h)))
  | some a7 =>
    try subst ha7
    refine q_J.step (fun g => j_nul_f rfl (j_aloadO (x := x6) rfl rfl (g))) ?_
    cases ha8 : x6 with
    | none =>
      try subst ha8
      exact J_some (fun h => j_nul_t rfl (j_iconst (0 : Int32) rfl k32_0 (j_iret rfl rfl h)))
    | some a8 =>
      try subst ha8
      refine J_bind fun w9 hw9 => ?_
      refine J_cl fun x11 σ10 hσ10 => ?_
      refine q_J.step (fun g => j_nul_f rfl (j_aload_n rfl rfl (j_iload_n rfl rfl (j_iload_n rfl rfl (j_v1 [.ref v1, .int v2, .int v3] [] rfl rfl rfl rfl rfl rfl hw9 (Or.inl rfl) (t_Sf_canShareLines (by omega) hσ10) (g)))))) ?_
      refine J_ite (fun h12 => ?_) (fun h12 => ?_)
      · exact J_some (fun h => j_if_f rfl (cc_ne_f h12) (j_iconst (0 : Int32) rfl k32_0 (j_iret rfl rfl h)))
      refine J_sq (fun (t13 : Int32) (σ14 : q_H) => q_G (q_rf fo) d m_Ho_join o σ' 138 [none, none, none, none, none, none, some (.int t13), none, none] [] σ14) (q_J.step (fun g => j_if_t rfl (cc_ne_t h12) (j_iconst (0 : Int32) rfl k32_0 (j_istore [some (.ref v0), some (.ref v1), some (.int v2), some (.int v3), some (.ref a7), some (.ref a8), some (.int (0 : Int32)), none, none] rfl rfl (Or.inr rfl) rfl (j_iconst (0 : Int32) rfl k32_0 (j_istore [some (.ref v0), some (.ref v1), some (.int v2), some (.int v3), some (.ref a7), some (.ref a8), some (.int (0 : Int32)), some (.int (0 : Int32)), none] rfl rfl (Or.inr rfl) rfl (g)))))) (l_Ho_join_L41 hd v0 v1 v2 v3 a7 a8 (fun _ _ h => h) q_FU (0 : Int32) (0 : Int32) σ10)) (fun t13 σ14 => ?_)
      exact J_some (fun h => j_iload rfl rfl (j_iret rfl rfl h))
theorem t_Ho_join {fo : Option Nat} {d : Nat} (hd : 4 ≤ d) {v0 : Nat} {v1 : Nat} {v2 : Int32} {v3 : Int32} {σ σ1 : q_H} {r : Int32} (h : f_Ho_join v0 v1 v2 v3 σ = some (r, σ1)) : q_Rel (q_rf fo) q_Ms d 99 [.ref v0, .ref v1, .int v2, .int v3] σ (.inl (some (.int r))) σ1 := by
  obtain ⟨d, rfl⟩ : ∃ d1, d = d1 + 1 := ⟨d - 1, by omega⟩
  exact q_Rel.of rfl rfl (b_Ho_join hd _ _ _ _ σ _ _ h ⟨rfl, rfl⟩)

set_option maxRecDepth 100000 in
theorem l_Ho_seekLeftOut_L35 {fo : Option Nat} {d : Nat} (hd : 4 ≤ d + 1) {o : q_O} {σ' : q_H} {E : (Unit) → q_H → Prop} (v0 : Nat) (v1 : Nat) (v2 : Int32) (v3 : Int32) (v4 : Nat) (v5 : Nat) (v6 : Int32) (hX : ∀ (t : Unit) σ1, E (t) σ1 → q_G (q_rf fo) d m_Ho_seekLeftOut o σ' 163 [none, none, none, none, none, none, none, none, none, none] [] σ1)  : ∀ (n : Nat) (v7 : Int32) (σ : q_H), q_J E (f_Ho_seekLeftOut_L35 v0 v1 v2 v3 v4 v5 v6 n v7 σ) (q_G (q_rf fo) d m_Ho_seekLeftOut o σ' 35 [some (.ref v0), some (.ref v1), some (.int v2), some (.int v3), some (.ref v4), some (.ref v5), some (.int v6), some (.int v7), none, none] [] σ)
  | 0, v7, σ => J_none
  | n + 1, v7, σ => by
    unfold f_Ho_seekLeftOut_L35
    refine J_bind fun x1 hx1 => ?_
    refine q_J.step (fun g => j_iload rfl rfl (j_aload rfl rfl (j_gfi rfl hx1 (g)))) ?_
    refine J_ite (fun h2 => ?_) (fun h2 => ?_)
    · refine J_bind fun x3 hx3 => ?_
      refine J_bind fun x4 hx4 => ?_
      refine J_bind fun x5 hx5 => ?_
      refine J_bind fun x6 hx6 => ?_
      refine q_J.step (fun g => j_icmp_f rfl (cc_ge_f h2) (j_aload_n rfl rfl (j_gfr rfl hx3 (j_iload_n rfl rfl (j_bipush (12 : Int32) rfl kb_12 (j_imul rfl (j_iload rfl rfl (j_iadd rfl (j_ial rfl hx4 (j_istore [some (.ref v0), some (.ref v1), some (.int v2), some (.int v3), some (.ref v4), some (.ref v5), some (.int v6), some (.int v7), some (.int x4), none] rfl rfl (Or.inr rfl) rfl (j_aload_n rfl rfl (j_gfr rfl hx5 (j_iload_n rfl rfl (j_bipush (12 : Int32) rfl kb_12 (g))))))))))))))) ?_
      refine q_J.step (fun g => j_imul rfl (j_iload rfl rfl (j_iadd rfl (j_ial rfl hx6 (j_istore [some (.ref v0), some (.ref v1), some (.int v2), some (.int v3), some (.ref v4), some (.ref v5), some (.int v6), some (.int v7), some (.int x4), some (.int x6)] rfl rfl (Or.inr rfl) rfl (j_iload rfl rfl (j_iload rfl rfl (g)))))))) ?_
      refine J_ite (fun h7 => ?_) (fun h7 => ?_)
      · exact q_J.step (fun g => j_icmp_t rfl (cc_gt_t h7) (j_iinc [some (.ref v0), some (.ref v1), some (.int v2), some (.int v3), some (.ref v4), some (.ref v5), some (.int v6), some (.int (v7 + (1 : Int32))), some (.int x4), some (.int x6)] (v7 + (1 : Int32)) rfl rfl (by rw [k32_1]) (Or.inr rfl) rfl (j_goto rfl (j_weak (l := [some (.ref v0), some (.ref v1), some (.int v2), some (.int v3), some (.ref v4), some (.ref v5), some (.int v6), some (.int (v7 + (1 : Int32))), none, none]) (And.intro (Or.inr rfl) (And.intro (Or.inr rfl) (And.intro (Or.inr rfl) (And.intro (Or.inr rfl) (And.intro (Or.inr rfl) (And.intro (Or.inr rfl) (And.intro (Or.inr rfl) (And.intro (Or.inr rfl) (And.intro (Or.inl rfl) (And.intro (Or.inl rfl) True.intro)))))))))) (g))))) (l_Ho_seekLeftOut_L35 hd v0 v1 v2 v3 v4 v5 v6 hX n (v7 + (1 : Int32)) σ)
      refine q_J.step (fun g => j_icmp_f rfl (cc_gt_f h7) (j_iload rfl rfl (j_iload rfl rfl (g)))) ?_
      refine J_ite (fun h8 => ?_) (fun h8 => ?_)
      · refine J_bind fun w9 hw9 => ?_
        refine J_cl fun x11 σ10 hσ10 => ?_
        refine q_J.step (fun g => j_icmp_f rfl (cc_ge_f h8) (j_aload rfl rfl (j_aload rfl rfl (j_iload rfl rfl (j_v1 [.ref v4, .ref v5, .int v7] [] rfl rfl rfl rfl rfl rfl hw9 (Or.inl rfl) (t_Pa_hasParentOf (by omega) hσ10) (g)))))) ?_
        refine J_ite (fun h12 => ?_) (fun h12 => ?_)
        · exact q_J.step (fun g => j_if_t rfl (cc_eq_t h12) (j_iinc [some (.ref v0), some (.ref v1), some (.int v2), some (.int v3), some (.ref v4), some (.ref v5), some (.int v6), some (.int (v7 + (1 : Int32))), some (.int x4), some (.int x6)] (v7 + (1 : Int32)) rfl rfl (by rw [k32_1]) (Or.inr rfl) rfl (j_goto rfl (j_weak (l := [some (.ref v0), some (.ref v1), some (.int v2), some (.int v3), some (.ref v4), some (.ref v5), some (.int v6), some (.int (v7 + (1 : Int32))), none, none]) (And.intro (Or.inr rfl) (And.intro (Or.inr rfl) (And.intro (Or.inr rfl) (And.intro (Or.inr rfl) (And.intro (Or.inr rfl) (And.intro (Or.inr rfl) (And.intro (Or.inr rfl) (And.intro (Or.inr rfl) (And.intro (Or.inl rfl) (And.intro (Or.inl rfl) True.intro)))))))))) (g))))) (l_Ho_seekLeftOut_L35 hd v0 v1 v2 v3 v4 v5 v6 hX n (v7 + (1 : Int32)) σ10)
        refine J_bind fun w13 hw13 => ?_
        refine J_cl fun x15 σ14 hσ14 => ?_
        refine q_J.step (fun g => j_if_f rfl (cc_eq_f h12) (j_aload_n rfl rfl (j_iload_n rfl rfl (j_aload rfl rfl (j_iload rfl rfl (j_iload_n rfl rfl (j_aload rfl rfl (j_v1 [.ref v1, .int v3, .ref v5, .int v7, .int v2, .ref v4] [] rfl rfl rfl rfl rfl rfl hw13 (Or.inl rfl) (t_Sf_match (by omega) hσ14) (j_iconst (-1 : Int32) rfl k32_m1 (g)))))))))) ?_
        refine J_ite (fun h16 => ?_) (fun h16 => ?_)
        · refine J_bind fun x17 hx17 => ?_
          refine J_bind fun x18 hx18 => ?_
          refine J_bind fun x19 hx19 => ?_
          refine q_J.step (fun g => j_icmp_f rfl (cc_ne_f h16) (j_aload_n rfl rfl (j_gfr rfl hx17 (j_iload_n rfl rfl (j_iconst (4 : Int32) rfl k32_4 (j_imul rfl (j_aload rfl rfl (j_gfr rfl hx18 (j_iload rfl rfl (j_bal rfl rfl hx19 (g))))))))))) ?_
          refine J_sq (fun (t21 : Int32) (σ22 : q_H) => q_G (q_rf fo) d m_Ho_seekLeftOut o σ' 138 [some (.ref v0), some (.ref v1), some (.int v2), some (.int v3), some (.ref v4), some (.ref v5), some (.int v6), some (.int v7), none, some (.int x6)] [.int t21, .int (v2 * (4 : Int32)), .ref x17] σ22) ?_ (fun t21 σ22 => ?_)
          · refine J_ite (fun h20 => ?_) (fun h20 => ?_)
            · exact J_some (fun h => j_if_t rfl (cc_eq_t h20) (j_iconst (0 : Int32) rfl k32_0 (j_weak (l := [some (.ref v0), some (.ref v1), some (.int v2), some (.int v3), some (.ref v4), some (.ref v5), some (.int v6), some (.int v7), none, some (.int x6)]) (And.intro (Or.inr rfl) (And.intro (Or.inr rfl) (And.intro (Or.inr rfl) (And.intro (Or.inr rfl) (And.intro (Or.inr rfl) (And.intro (Or.inr rfl) (And.intro (Or.inr rfl) (And.intro (Or.inr rfl) (And.intro (Or.inl rfl) (And.intro (Or.inr rfl) True.intro)))))))))) (h))))
            exact J_some (fun h => j_if_f rfl (cc_eq_f h20) (j_iconst (2 : Int32) rfl k32_2 (j_goto rfl (j_weak (l := [some (.ref v0), some (.ref v1), some (.int v2), some (.int v3), some (.ref v4), some (.ref v5), some (.int v6), some (.int v7), none, some (.int x6)]) (And.intro (Or.inr rfl) (And.intro (Or.inr rfl) (And.intro (Or.inr rfl) (And.intro (Or.inr rfl) (And.intro (Or.inr rfl) (And.intro (Or.inr rfl) (And.intro (Or.inr rfl) (And.intro (Or.inr rfl) (And.intro (Or.inl rfl) (And.intro (Or.inr rfl) True.intro)))))))))) (h)))))
          refine q_J.step (fun g => j_iadd rfl (j_iload rfl rfl (j_iload rfl rfl (g)))) ?_
          refine J_ite (fun h23 => ?_) (fun h23 => ?_)
          · refine J_bind fun x24 hx24 => ?_
            refine J_bind fun σ25 hσ25 => ?_
            exact q_J.step (fun g => j_icmp_f rfl (cc_ge_f h23) (j_iconst (0 : Int32) rfl k32_0 (j_goto rfl (j_iadd rfl (j_dup2 rfl rfl rfl (j_ial rfl hx24 (j_iconst (1 : Int32) rfl k32_1 (j_iadd rfl (j_ias rfl hσ25 (j_iinc [some (.ref v0), some (.ref v1), some (.int v2), some (.int v3), some (.ref v4), some (.ref v5), some (.int v6), some (.int (v7 + (1 : Int32))), none, some (.int x6)] (v7 + (1 : Int32)) rfl rfl (by rw [k32_1]) (Or.inr rfl) rfl (j_goto rfl (j_weak (l := [some (.ref v0), some (.ref v1), some (.int v2), some (.int v3), some (.ref v4), some (.ref v5), some (.int v6), some (.int (v7 + (1 : Int32))), none, none]) (And.intro (Or.inr rfl) (And.intro (Or.inr rfl) (And.intro (Or.inr rfl) (And.intro (Or.inr rfl) (And.intro (Or.inr rfl) (And.intro (Or.inr rfl) (And.intro (Or.inr rfl) (And.intro (Or.inr rfl) (And.intro (Or.inr rfl) (And.intro (Or.inl rfl) True.intro)))))))))) (g))))))))))))) (l_Ho_seekLeftOut_L35 hd v0 v1 v2 v3 v4 v5 v6 hX n (v7 + (1 : Int32)) σ25)
          refine J_bind fun x26 hx26 => ?_
          refine J_bind fun σ27 hσ27 => ?_
          exact q_J.step (fun g => j_icmp_t rfl (cc_ge_t h23) (j_iconst (1 : Int32) rfl k32_1 (j_iadd rfl (j_dup2 rfl rfl rfl (j_ial rfl hx26 (j_iconst (1 : Int32) rfl k32_1 (j_iadd rfl (j_ias rfl hσ27 (j_iinc [some (.ref v0), some (.ref v1), some (.int v2), some (.int v3), some (.ref v4), some (.ref v5), some (.int v6), some (.int (v7 + (1 : Int32))), none, some (.int x6)] (v7 + (1 : Int32)) rfl rfl (by rw [k32_1]) (Or.inr rfl) rfl (j_goto rfl (j_weak (l := [some (.ref v0), some (.ref v1), some (.int v2), some (.int v3), some (.ref v4), some (.ref v5), some (.int v6), some (.int (v7 + (1 : Int32))), none, none]) (And.intro (Or.inr rfl) (And.intro (Or.inr rfl) (And.intro (Or.inr rfl) (And.intro (Or.inr rfl) (And.intro (Or.inr rfl) (And.intro (Or.inr rfl) (And.intro (Or.inr rfl) (And.intro (Or.inr rfl) (And.intro (Or.inr rfl) (And.intro (Or.inl rfl) True.intro)))))))))) (g)))))))))))) (l_Ho_seekLeftOut_L35 hd v0 v1 v2 v3 v4 v5 v6 hX n (v7 + (1 : Int32)) σ27)
        exact q_J.step (fun g => j_icmp_t rfl (cc_ne_t h16) (j_iinc [some (.ref v0), some (.ref v1), some (.int v2), some (.int v3), some (.ref v4), some (.ref v5), some (.int v6), some (.int (v7 + (1 : Int32))), some (.int x4), some (.int x6)] (v7 + (1 : Int32)) rfl rfl (by rw [k32_1]) (Or.inr rfl) rfl (j_goto rfl (j_weak (l := [some (.ref v0), some (.ref v1), some (.int v2), some (.int v3), some (.ref v4), some (.ref v5), some (.int v6), some (.int (v7 + (1 : Int32))), none, none]) (And.intro (Or.inr rfl) (And.intro (Or.inr rfl) (And.intro (Or.inr rfl) (And.intro (Or.inr rfl) (And.intro (Or.inr rfl) (And.intro (Or.inr rfl) (And.intro (Or.inr rfl) (And.intro (Or.inr rfl) (And.intro (Or.inl rfl) (And.intro (Or.inl rfl) True.intro)))))))))) (g))))) (l_Ho_seekLeftOut_L35 hd v0 v1 v2 v3 v4 v5 v6 hX n (v7 + (1 : Int32)) σ14)
      exact q_J.step (fun g => j_icmp_t rfl (cc_ge_t h8) (j_iinc [some (.ref v0), some (.ref v1), some (.int v2), some (.int v3), some (.ref v4), some (.ref v5), some (.int v6), some (.int (v7 + (1 : Int32))), some (.int x4), some (.int x6)] (v7 + (1 : Int32)) rfl rfl (by rw [k32_1]) (Or.inr rfl) rfl (j_goto rfl (j_weak (l := [some (.ref v0), some (.ref v1), some (.int v2), some (.int v3), some (.ref v4), some (.ref v5), some (.int v6), some (.int (v7 + (1 : Int32))), none, none]) (And.intro (Or.inr rfl) (And.intro (Or.inr rfl) (And.intro (Or.inr rfl) (And.intro (Or.inr rfl) (And.intro (Or.inr rfl) (And.intro (Or.inr rfl) (And.intro (Or.inr rfl) (And.intro (Or.inr rfl) (And.intro (Or.inl rfl) (And.intro (Or.inl rfl) True.intro)))))))))) (g))))) (l_Ho_seekLeftOut_L35 hd v0 v1 v2 v3 v4 v5 v6 hX n (v7 + (1 : Int32)) σ)
    exact J_some (fun h => j_icmp_t rfl (cc_ge_t h2) (j_weak (l := [none, none, none, none, none, none, none, none, none, none]) (And.intro (Or.inl rfl) (And.intro (Or.inl rfl) (And.intro (Or.inl rfl) (And.intro (Or.inl rfl) (And.intro (Or.inl rfl) (And.intro (Or.inl rfl) (And.intro (Or.inl rfl) (And.intro (Or.inl rfl) (And.intro (Or.inr rfl) (And.intro (Or.inr rfl) True.intro)))))))))) (hX _ _ h)))

set_option maxRecDepth 100000 in
theorem b_Ho_seekLeftOut {fo : Option Nat} {d : Nat} (hd : 4 ≤ d + 1) {o : q_O} {σ' : q_H} (v0 : Nat) (v1 : Nat) (v2 : Int32) (v3 : Int32) (σ : q_H) : q_J (fun (r : Unit) (σ1 : q_H) => o = .inl none ∧ σ' = σ1) (f_Ho_seekLeftOut v0 v1 v2 v3 σ) (q_G (q_rf fo) d m_Ho_seekLeftOut o σ' 0 [some (.ref v0), some (.ref v1), some (.int v2), some (.int v3), none, none, none, none, none, none] [] σ) := by
  unfold f_Ho_seekLeftOut
  refine J_bind fun w1 hw1 => ?_
  refine J_cl fun x3 σ2 hσ2 => ?_
  refine J_bind fun w4 hw4 => ?_
  refine J_cl fun x6 σ5 hσ5 => ?_
  refine q_J.step (fun g => j_aload_n rfl rfl (j_iload_n rfl rfl (j_v1 [.ref v1, .int v2] [] rfl rfl rfl rfl rfl rfl hw1 (Or.inl rfl) (t_Sf_pageOf (by omega) hσ2) (j_astoreO (x := x3) [some (.ref v0), some (.ref v1), some (.int v2), some (.int v3), some (q_rf x3), none, none, none, none, none] rfl rfl (Or.inr rfl) rfl (j_aload_n rfl rfl (j_iload_n rfl rfl (j_v1 [.ref v1, .int v3] [] rfl rfl rfl rfl rfl rfl hw4 (Or.inl rfl) (t_Sf_pageOf (by omega) hσ5) (j_astoreO (x := x6) [some (.ref v0), some (.ref v1), some (.int v2), some (.int v3), some (q_rf x3), some (q_rf x6), none, none, none, none] rfl rfl (Or.inr (q_rf_cat _)) rfl (j_aloadO (x := x3) rfl rfl (g)))))))))) ?_
  cases ha7 : x3 with
  | none =>
    try subst ha7
    exact J_some (fun h => j_nul_t rfl (j_vret rfl rfl h))
  | some a7 =>
    try subst ha7
    refine q_J.step (fun g => j_nul_f rfl (j_aloadO (x := x6) rfl rfl (g))) ?_
    cases ha8 : x6 with
    | none =>
      try subst ha8
      exact J_some (fun h => j_non_f rfl (j_vret rfl rfl h))
    | some a8 =>
      try subst ha8
      refine J_bind fun w9 hw9 => ?_
      refine J_cl fun x11 σ10 hσ10 => ?_
      refine J_sq (fun (t12 : Unit) (σ13 : q_H) => q_G (q_rf fo) d m_Ho_seekLeftOut o σ' 163 [none, none, none, none, none, none, none, none, none, none] [] σ13) (q_J.step (fun g => j_non_t rfl (j_aload_n rfl rfl (j_iload_n rfl rfl (j_v1 [.ref v1, .int v2] [] rfl rfl rfl rfl rfl rfl hw9 (Or.inl rfl) (t_Sf_yearOf (by omega) hσ10) (j_istore [some (.ref v0), some (.ref v1), some (.int v2), some (.int v3), some (.ref a7), some (.ref a8), some (.int x11), none, none, none] rfl rfl (Or.inr rfl) rfl (j_iconst (0 : Int32) rfl k32_0 (j_istore [some (.ref v0), some (.ref v1), some (.int v2), some (.int v3), some (.ref a7), some (.ref a8), some (.int x11), some (.int (0 : Int32)), none, none] rfl rfl (Or.inr rfl) rfl (g)))))))) (l_Ho_seekLeftOut_L35 hd v0 v1 v2 v3 a7 a8 x11 (fun _ _ h => h) q_FU (0 : Int32) σ10)) (fun t12 σ13 => ?_)
      exact J_some (fun h => j_vret rfl rfl h)
theorem t_Ho_seekLeftOut {fo : Option Nat} {d : Nat} (hd : 4 ≤ d) {v0 : Nat} {v1 : Nat} {v2 : Int32} {v3 : Int32} {σ σ1 : q_H} {r : Unit} (h : f_Ho_seekLeftOut v0 v1 v2 v3 σ = some (r, σ1)) : q_Rel (q_rf fo) q_Ms d 102 [.ref v0, .ref v1, .int v2, .int v3] σ (.inl none) σ1 := by
  obtain ⟨d, rfl⟩ : ∃ d1, d = d1 + 1 := ⟨d - 1, by omega⟩
  exact q_Rel.of rfl rfl (b_Ho_seekLeftOut hd _ _ _ _ σ _ _ h ⟨rfl, rfl⟩)

set_option maxRecDepth 100000 in
theorem b_Rs_sort {fo : Option Nat} {d : Nat} (hd : 4 ≤ d + 1) {o : q_O} {σ' : q_H} (v0 : Nat) (v1 : Int32) (v2 : Int32) (σ : q_H) : q_J (fun (r : Int32) (σ1 : q_H) => o = .inl (some (.int r)) ∧ σ' = σ1) (f_Rs_sort v0 v1 v2 σ) (q_G (q_rf fo) d m_Rs_sort o σ' 0 [some (.ref v0), some (.int v1), some (.int v2), none] [] σ) := by
  unfold f_Rs_sort
  refine J_bind fun w1 hw1 => ?_
  refine J_cl fun x3 σ2 hσ2 => ?_
  refine q_J.step (fun g => j_aload_n rfl rfl (j_iload_n rfl rfl (j_iload_n rfl rfl (j_v1 [.ref v0, .int v1, .int v2] [] rfl rfl rfl rfl rfl rfl hw1 (Or.inl rfl) (t_Rs_pageOfWife (by omega) hσ2) (j_astore_nO (x := x3) [some (.ref v0), some (.int v1), some (.int v2), some (q_rf x3)] rfl rfl (Or.inr rfl) rfl (j_aload_nO (x := x3) rfl rfl (g))))))) ?_
  cases ha4 : x3 with
  | none =>
    try subst ha4
    exact J_some (fun h => j_non_f rfl (j_iconst (-1 : Int32) rfl k32_m1 (j_goto rfl (j_iret rfl rfl h))))
  | some a4 =>
    try subst ha4
    refine J_bind fun x5 hx5 => ?_
    refine J_bind fun x6 hx6 => ?_
    exact J_some (fun h => j_non_t rfl (j_aload_n rfl rfl (j_gfr rfl hx5 (j_iload_n rfl rfl (j_ial rfl hx6 (j_iret rfl rfl h))))))
theorem t_Rs_sort {fo : Option Nat} {d : Nat} (hd : 4 ≤ d) {v0 : Nat} {v1 : Int32} {v2 : Int32} {σ σ1 : q_H} {r : Int32} (h : f_Rs_sort v0 v1 v2 σ = some (r, σ1)) : q_Rel (q_rf fo) q_Ms d 115 [.ref v0, .int v1, .int v2] σ (.inl (some (.int r))) σ1 := by
  obtain ⟨d, rfl⟩ : ∃ d1, d = d1 + 1 := ⟨d - 1, by omega⟩
  exact q_Rel.of rfl rfl (b_Rs_sort hd _ _ _ σ _ _ h ⟨rfl, rfl⟩)

set_option maxRecDepth 100000 in
theorem l_Rs_gather_L11 {fo : Option Nat} {d : Nat} (hd : 4 ≤ d + 1) {o : q_O} {σ' : q_H} {E : (Unit) → q_H → Prop} (v0 : Nat) (v1 : Int32) (v2 : Int32) (v3 : Nat) (hX : ∀ (t : Unit) σ1, E (t) σ1 → q_G (q_rf fo) d m_Rs_gather o σ' 51 [none, none, none, some (.ref v3), none, none] [] σ1)  : ∀ (n : Nat) (v4 : Int32) (σ : q_H), q_J E (f_Rs_gather_L11 v0 v1 v2 v3 n v4 σ) (q_G (q_rf fo) d m_Rs_gather o σ' 11 [some (.ref v0), some (.int v1), some (.int v2), some (.ref v3), some (.int v4), none] [] σ)
  | 0, v4, σ => J_none
  | n + 1, v4, σ => by
    unfold f_Rs_gather_L11
    refine q_J.step (fun g => j_iload rfl rfl (j_bipush (24 : Int32) rfl kb_24 (g))) ?_
    refine J_ite (fun h1 => ?_) (fun h1 => ?_)
    · refine J_bind fun x2 hx2 => ?_
      refine J_bind fun w3 hw3 => ?_
      refine J_cl fun x5 σ4 hσ4 => ?_
      refine q_J.step (fun g => j_icmp_f rfl (cc_ge_f h1) (j_aload_n rfl rfl (j_gfr rfl hx2 (j_iload rfl rfl (j_iload_n rfl rfl (j_iload_n rfl rfl (j_v1 [.ref x2, .int v4, .int v1, .int v2] [] rfl rfl rfl rfl rfl rfl hw3 (Or.inl rfl) (t_Sf_pageWithin (by omega) hσ4) (j_astoreO (x := x5) [some (.ref v0), some (.int v1), some (.int v2), some (.ref v3), some (.int v4), some (q_rf x5)] rfl rfl (Or.inr rfl) rfl (j_aloadO (x := x5) rfl rfl (g)))))))))) ?_
      cases ha6 : x5 with
      | none =>
        try subst ha6
        exact q_J.step (fun g => j_nul_t rfl (j_iinc [some (.ref v0), some (.int v1), some (.int v2), some (.ref v3), some (.int (v4 + (1 : Int32))), some (.null)] (v4 + (1 : Int32)) rfl rfl (by rw [k32_1]) (Or.inr rfl) rfl (j_goto rfl (j_weak (l := [some (.ref v0), some (.int v1), some (.int v2), some (.ref v3), some (.int (v4 + (1 : Int32))), none]) (And.intro (Or.inr rfl) (And.intro (Or.inr rfl) (And.intro (Or.inr rfl) (And.intro (Or.inr rfl) (And.intro (Or.inr rfl) (And.intro (Or.inl rfl) True.intro)))))) (g))))) (l_Rs_gather_L11 hd v0 v1 v2 v3 hX n (v4 + (1 : Int32)) σ4)
      | some a6 =>
        try subst ha6
        refine J_bind fun x7 hx7 => ?_
        refine J_bind fun w8 hw8 => ?_
        refine J_cl fun _ σ9 hσ9 => ?_
        exact q_J.step (fun g => j_nul_f rfl (j_aload_n rfl rfl (j_aload rfl rfl (j_gfr rfl hx7 (j_v0 [.ref v3, .ref x7] [] rfl rfl rfl rfl rfl rfl hw8 (Or.inl rfl) (t_Ty_add (by omega) hσ9) (j_iinc [some (.ref v0), some (.int v1), some (.int v2), some (.ref v3), some (.int (v4 + (1 : Int32))), some (.ref a6)] (v4 + (1 : Int32)) rfl rfl (by rw [k32_1]) (Or.inr rfl) rfl (j_goto rfl (j_weak (l := [some (.ref v0), some (.int v1), some (.int v2), some (.ref v3), some (.int (v4 + (1 : Int32))), none]) (And.intro (Or.inr rfl) (And.intro (Or.inr rfl) (And.intro (Or.inr rfl) (And.intro (Or.inr rfl) (And.intro (Or.inr rfl) (And.intro (Or.inl rfl) True.intro)))))) (g))))))))) (l_Rs_gather_L11 hd v0 v1 v2 v3 hX n (v4 + (1 : Int32)) σ9)
    exact J_some (fun h => j_icmp_t rfl (cc_ge_t h1) (j_weak (l := [none, none, none, some (.ref v3), none, none]) (And.intro (Or.inl rfl) (And.intro (Or.inl rfl) (And.intro (Or.inl rfl) (And.intro (Or.inr rfl) (And.intro (Or.inl rfl) (And.intro (Or.inr rfl) True.intro)))))) (hX _ _ h)))

set_option maxRecDepth 100000 in
theorem b_Rs_gather {fo : Option Nat} {d : Nat} (hd : 4 ≤ d + 1) {o : q_O} {σ' : q_H} (v0 : Nat) (v1 : Int32) (v2 : Int32) (σ : q_H) : q_J (fun (r : Nat) (σ1 : q_H) => o = .inl (some (.ref r)) ∧ σ' = σ1) (f_Rs_gather v0 v1 v2 σ) (q_G (q_rf fo) d m_Rs_gather o σ' 0 [some (.ref v0), some (.int v1), some (.int v2), none, none, none] [] σ) := by
  unfold f_Rs_gather
  refine J_ma fun σ1 a2 hσ1 ha2 => ?_
  refine J_cl fun _ σ3 hσ3 => ?_
  refine J_sq (fun (t5 : Unit) (σ6 : q_H) => q_G (q_rf fo) d m_Rs_gather o σ' 51 [none, none, none, some (.ref a2), none, none] [] σ6) (q_J.step (fun g => j_newk2 [.null] rfl rfl rfl hσ1 ha2 (j_dup rfl rfl (j_i0 [.ref a2] [.ref a2] rfl rfl rfl rfl rfl rfl (t_Ty_init (by omega) hσ3) (j_astore_n [some (.ref v0), some (.int v1), some (.int v2), some (.ref a2), none, none] rfl rfl (Or.inr rfl) rfl (j_iconst (0 : Int32) rfl k32_0 (j_istore [some (.ref v0), some (.int v1), some (.int v2), some (.ref a2), some (.int (0 : Int32)), none] rfl rfl (Or.inr rfl) rfl (g))))))) (l_Rs_gather_L11 hd v0 v1 v2 a2 (fun _ _ h => h) q_FU (0 : Int32) σ3)) (fun t5 σ6 => ?_)
  exact J_some (fun h => j_aload_n rfl rfl (j_aret (x := some a2) rfl (Or.inl ⟨_, rfl⟩) h))
theorem t_Rs_gather {fo : Option Nat} {d : Nat} (hd : 4 ≤ d) {v0 : Nat} {v1 : Int32} {v2 : Int32} {σ σ1 : q_H} {r : Nat} (h : f_Rs_gather v0 v1 v2 σ = some (r, σ1)) : q_Rel (q_rf fo) q_Ms d 119 [.ref v0, .int v1, .int v2] σ (.inl (some (.ref r))) σ1 := by
  obtain ⟨d, rfl⟩ : ∃ d1, d = d1 + 1 := ⟨d - 1, by omega⟩
  exact q_Rel.of rfl rfl (b_Rs_gather hd _ _ _ σ _ _ h ⟨rfl, rfl⟩)

set_option maxRecDepth 100000 in
theorem b_Rs_moveOf {fo : Option Nat} {d : Nat} (hd : 4 ≤ d + 1) {o : q_O} {σ' : q_H} (v0 : Nat) (v1 : Int32) (v2 : Nat) (σ : q_H) : q_J (fun (r : Option Nat) (σ1 : q_H) => o = .inl (some (q_rf r)) ∧ σ' = σ1) (f_Rs_moveOf v0 v1 v2 σ) (q_G (q_rf fo) d m_Rs_moveOf o σ' 0 [some (.ref v0), some (.int v1), some (.ref v2), none, none, none] [] σ) := by
  unfold f_Rs_moveOf
  refine J_bind fun x1 hx1 => ?_
  refine J_bind fun w2 hw2 => ?_
  refine J_cl fun x4 σ3 hσ3 => ?_
  refine q_J.step (fun g => j_aload_n rfl rfl (j_gfr rfl hx1 (j_iload_n rfl rfl (j_v1 [.ref x1, .int v1] [] rfl rfl rfl rfl rfl rfl hw2 (Or.inl rfl) (t_Sf_pageOf (by omega) hσ3) (j_astore_nO (x := x4) [some (.ref v0), some (.int v1), some (.ref v2), some (q_rf x4), none, none] rfl rfl (Or.inr rfl) rfl (j_aload_nO (x := x4) rfl rfl (g))))))) ?_
  cases ha5 : x4 with
  | none =>
    try subst ha5
    exact J_some (fun h => j_non_f rfl (j_null rfl (j_aret (x := none) rfl (Or.inl ⟨_, rfl⟩) h)))
  | some a5 =>
    try subst ha5
    refine J_bind fun w6 hw6 => ?_
    refine J_cl fun x8 σ7 hσ7 => ?_
    refine J_bind fun w9 hw9 => ?_
    refine J_cl fun x11 σ10 hσ10 => ?_
    refine J_bind fun x12 hx12 => ?_
    refine J_bind fun w13 hw13 => ?_
    refine J_cl fun x15 σ14 hσ14 => ?_
    refine J_bind fun x16 hx16 => ?_
    refine J_bind fun w17 hw17 => ?_
    refine J_cl fun x19 σ18 hσ18 => ?_
    refine J_cl fun x21 σ20 hσ20 => ?_
    exact J_some (fun h => j_non_t rfl (j_aload_n rfl rfl (j_iconst (0 : Int32) rfl k32_0 (j_iconst (0 : Int32) rfl k32_0 (j_v1 [.ref v2, .int (0 : Int32), .int (0 : Int32)] [] rfl rfl rfl rfl rfl rfl hw6 (Or.inl rfl) (t_Ty_picked (by omega) hσ7) (j_istore [some (.ref v0), some (.int v1), some (.ref v2), some (.ref a5), some (.int x8), none] rfl rfl (Or.inr rfl) rfl (j_aload_n rfl rfl (j_iconst (0 : Int32) rfl k32_0 (j_v1 [.ref v2, .int (0 : Int32)] [] rfl rfl rfl rfl rfl rfl hw9 (Or.inl rfl) (t_Ty_all (by omega) hσ10) (j_istore [some (.ref v0), some (.int v1), some (.ref v2), some (.ref a5), some (.int x8), some (.int x11)] rfl rfl (Or.inr rfl) rfl (j_iload rfl rfl (j_aload_n rfl rfl (j_gfr rfl hx12 (j_iconst (0 : Int32) rfl k32_0 (j_iconst (0 : Int32) rfl k32_0 (j_v1 [.ref x12, .int (0 : Int32), .int (0 : Int32)] [.int x8] rfl rfl rfl rfl rfl rfl hw13 (Or.inl rfl) (t_Ty_picked (by omega) hσ14) (j_isub rfl (j_i2l rfl (j_iload rfl rfl (j_aload_n rfl rfl (j_gfr rfl hx16 (j_iconst (0 : Int32) rfl k32_0 (j_v1 [.ref x16, .int (0 : Int32)] [.int x11, .long ((x8 - x15).toInt64)] rfl rfl rfl rfl rfl rfl hw17 (Or.inl rfl) (t_Ty_all (by omega) hσ18) (j_isub rfl (j_i2l rfl (j_iload rfl rfl (j_i2l rfl (j_iload rfl rfl (j_i2l rfl (j_s1 [.long ((x8 - x15).toInt64), .long ((x11 - x19).toInt64), .long x8.toInt64, .long x11.toInt64] [] rfl rfl rfl rfl rfl (t_Ra_difference (by omega) hσ20) (j_aret (x := x21) rfl (Or.inl ⟨_, rfl⟩) h)))))))))))))))))))))))))))))))
theorem t_Rs_moveOf {fo : Option Nat} {d : Nat} (hd : 4 ≤ d) {v0 : Nat} {v1 : Int32} {v2 : Nat} {σ σ1 : q_H} {r : Option Nat} (h : f_Rs_moveOf v0 v1 v2 σ = some (r, σ1)) : q_Rel (q_rf fo) q_Ms d 123 [.ref v0, .int v1, .ref v2] σ (.inl (some (q_rf r))) σ1 := by
  obtain ⟨d, rfl⟩ : ∃ d1, d = d1 + 1 := ⟨d - 1, by omega⟩
  exact q_Rel.of rfl rfl (b_Rs_moveOf hd _ _ _ σ _ _ h ⟨rfl, rfl⟩)

set_option maxRecDepth 100000 in
theorem l_Rs_heaping_L42 {fo : Option Nat} {d : Nat} (hd : 4 ≤ d + 1) {o : q_O} {σ' : q_H} {E : (Int32 × Int32) → q_H → Prop} (v0 : Nat) (v1 : Int32) (v2 : Int32) (v3 : Int32) (v6 : Int32) (v7 : Option Nat) (hX : ∀ (t : Int32 × Int32) σ1, E (t) σ1 → q_G (q_rf fo) d m_Rs_heaping o σ' 107 [some (.ref v0), some (.int v1), some (.int v2), some (.int v3), some (.int t.1), some (.int t.2), some (.int v6), none, none] [] σ1)  : ∀ (n : Nat) (v4 : Int32) (v5 : Int32) (v8 : Int32) (σ : q_H), q_J E (f_Rs_heaping_L42 v0 v1 v2 v3 v6 v7 n v4 v5 v8 σ) (q_G (q_rf fo) d m_Rs_heaping o σ' 42 [some (.ref v0), some (.int v1), some (.int v2), some (.int v3), some (.int v4), some (.int v5), some (.int v6), some (q_rf v7), some (.int v8)] [] σ)
  | 0, v4, v5, v8, σ => J_none
  | n + 1, v4, v5, v8, σ => by
    unfold f_Rs_heaping_L42
    refine q_J.step (fun g => j_aloadO (x := v7) rfl rfl (g)) ?_
    cases ha1 : v7 with
    | none =>
      try subst ha1
      exact J_some (fun h => j_nul_t rfl (j_weak (l := [some (.ref v0), some (.int v1), some (.int v2), some (.int v3), some (.int v4), some (.int v5), some (.int v6), none, none]) (And.intro (Or.inr rfl) (And.intro (Or.inr rfl) (And.intro (Or.inr rfl) (And.intro (Or.inr rfl) (And.intro (Or.inr rfl) (And.intro (Or.inr rfl) (And.intro (Or.inr rfl) (And.intro (Or.inl rfl) (And.intro (Or.inl rfl) True.intro))))))))) (hX _ _ h)))
    | some a1 =>
      try subst ha1
      refine J_bind fun x2 hx2 => ?_
      refine q_J.step (fun g => j_nul_f rfl (j_iload rfl rfl (j_aload rfl rfl (j_gfi rfl hx2 (g))))) ?_
      refine J_ite (fun h3 => ?_) (fun h3 => ?_)
      · refine J_bind fun x4 hx4 => ?_
        refine J_bind fun x5 hx5 => ?_
        refine J_cl fun x7 σ6 hσ6 => ?_
        refine q_J.step (fun g => j_icmp_f rfl (cc_ge_f h3) (j_bipush (10 : Int32) rfl kb_10 (j_aload rfl rfl (j_gfr rfl hx4 (j_iload rfl rfl (j_ial rfl hx5 (j_bipush (69 : Int32) rfl kb_69 (j_s1 [.int (10 : Int32), .int x5, .int (69 : Int32)] [] rfl rfl rfl rfl rfl (t_Rs_isFrom (by omega) hσ6) (g))))))))) ?_
        refine J_ite (fun h8 => ?_) (fun h8 => ?_)
        · exact q_J.step (fun g => j_if_t rfl (cc_eq_t h8) (j_iinc [some (.ref v0), some (.int v1), some (.int v2), some (.int v3), some (.int v4), some (.int v5), some (.int v6), some (.ref a1), some (.int (v8 + (1 : Int32)))] (v8 + (1 : Int32)) rfl rfl (by rw [k32_1]) (Or.inr rfl) rfl (j_goto rfl (g)))) (l_Rs_heaping_L42 hd v0 v1 v2 v3 v6 (some a1) hX n v4 v5 (v8 + (1 : Int32)) σ6)
        refine J_bind fun x9 hx9 => ?_
        refine J_bind fun x10 hx10 => ?_
        refine q_J.step (fun g => j_if_f rfl (cc_eq_f h8) (j_iinc [some (.ref v0), some (.int v1), some (.int v2), some (.int v3), some (.int v4), some (.int (v5 + (1 : Int32))), some (.int v6), some (.ref a1), some (.int v8)] (v5 + (1 : Int32)) rfl rfl (by rw [k32_1]) (Or.inr rfl) rfl (j_iload rfl rfl (j_aload rfl rfl (j_gfr rfl hx9 (j_iload rfl rfl (j_ial rfl hx10 (j_iconst (5 : Int32) rfl k32_5 (j_irem rfl (by decide) (g)))))))))) ?_
        refine J_ite (fun h11 => ?_) (fun h11 => ?_)
        · exact q_J.step (fun g => j_if_f rfl (cc_ne_f h11) (j_iconst (1 : Int32) rfl k32_1 (j_goto rfl (j_iadd rfl (j_istore [some (.ref v0), some (.int v1), some (.int v2), some (.int v3), some (.int (v4 + (1 : Int32))), some (.int (v5 + (1 : Int32))), some (.int v6), some (.ref a1), some (.int v8)] rfl rfl (Or.inr rfl) rfl (j_iinc [some (.ref v0), some (.int v1), some (.int v2), some (.int v3), some (.int (v4 + (1 : Int32))), some (.int (v5 + (1 : Int32))), some (.int v6), some (.ref a1), some (.int (v8 + (1 : Int32)))] (v8 + (1 : Int32)) rfl rfl (by rw [k32_1]) (Or.inr rfl) rfl (j_goto rfl (g)))))))) (l_Rs_heaping_L42 hd v0 v1 v2 v3 v6 (some a1) hX n (v4 + (1 : Int32)) (v5 + (1 : Int32)) (v8 + (1 : Int32)) σ6)
        exact q_J.step (fun g => j_if_t rfl (cc_ne_t h11) (j_iconst (0 : Int32) rfl k32_0 (j_iadd rfl (j_istore [some (.ref v0), some (.int v1), some (.int v2), some (.int v3), some (.int (v4 + (0 : Int32))), some (.int (v5 + (1 : Int32))), some (.int v6), some (.ref a1), some (.int v8)] rfl rfl (Or.inr rfl) rfl (j_iinc [some (.ref v0), some (.int v1), some (.int v2), some (.int v3), some (.int (v4 + (0 : Int32))), some (.int (v5 + (1 : Int32))), some (.int v6), some (.ref a1), some (.int (v8 + (1 : Int32)))] (v8 + (1 : Int32)) rfl rfl (by rw [k32_1]) (Or.inr rfl) rfl (j_goto rfl (g))))))) (l_Rs_heaping_L42 hd v0 v1 v2 v3 v6 (some a1) hX n (v4 + (0 : Int32)) (v5 + (1 : Int32)) (v8 + (1 : Int32)) σ6)
      exact J_some (fun h => j_icmp_t rfl (cc_ge_t h3) (j_weak (l := [some (.ref v0), some (.int v1), some (.int v2), some (.int v3), some (.int v4), some (.int v5), some (.int v6), none, none]) (And.intro (Or.inr rfl) (And.intro (Or.inr rfl) (And.intro (Or.inr rfl) (And.intro (Or.inr rfl) (And.intro (Or.inr rfl) (And.intro (Or.inr rfl) (And.intro (Or.inr rfl) (And.intro (Or.inl rfl) (And.intro (Or.inl rfl) True.intro))))))))) (hX _ _ h)))

set_option maxRecDepth 100000 in
theorem l_Rs_heaping_L19 {fo : Option Nat} {d : Nat} (hd : 4 ≤ d + 1) {o : q_O} {σ' : q_H} {E : (Int32 × Int32) → q_H → Prop} (v0 : Nat) (v1 : Int32) (v2 : Int32) (v3 : Int32) (hX : ∀ (t : Int32 × Int32) σ1, E (t) σ1 → q_G (q_rf fo) d m_Rs_heaping o σ' 113 [none, none, none, some (.int v3), some (.int t.1), some (.int t.2), none, none, none] [] σ1)  : ∀ (n : Nat) (v4 : Int32) (v5 : Int32) (v6 : Int32) (σ : q_H), q_J E (f_Rs_heaping_L19 v0 v1 v2 v3 n v4 v5 v6 σ) (q_G (q_rf fo) d m_Rs_heaping o σ' 19 [some (.ref v0), some (.int v1), some (.int v2), some (.int v3), some (.int v4), some (.int v5), some (.int v6), none, none] [] σ)
  | 0, v4, v5, v6, σ => J_none
  | n + 1, v4, v5, v6, σ => by
    unfold f_Rs_heaping_L19
    refine q_J.step (fun g => j_iload rfl rfl (j_bipush (24 : Int32) rfl kb_24 (g))) ?_
    refine J_ite (fun h1 => ?_) (fun h1 => ?_)
    · refine J_bind fun x2 hx2 => ?_
      refine J_bind fun w3 hw3 => ?_
      refine J_cl fun x5 σ4 hσ4 => ?_
      refine J_sq (fun (t6 : Int32 × Int32) (σ7 : q_H) => q_G (q_rf fo) d m_Rs_heaping o σ' 107 [some (.ref v0), some (.int v1), some (.int v2), some (.int v3), some (.int t6.1), some (.int t6.2), some (.int v6), none, none] [] σ7) (q_J.step (fun g => j_icmp_f rfl (cc_ge_f h1) (j_aload_n rfl rfl (j_gfr rfl hx2 (j_iload rfl rfl (j_iload_n rfl rfl (j_iload_n rfl rfl (j_v1 [.ref x2, .int v6, .int v1, .int v2] [] rfl rfl rfl rfl rfl rfl hw3 (Or.inl rfl) (t_Sf_pageWithin (by omega) hσ4) (j_astoreO (x := x5) [some (.ref v0), some (.int v1), some (.int v2), some (.int v3), some (.int v4), some (.int v5), some (.int v6), some (q_rf x5), none] rfl rfl (Or.inr rfl) rfl (j_iconst (0 : Int32) rfl k32_0 (j_istore [some (.ref v0), some (.int v1), some (.int v2), some (.int v3), some (.int v4), some (.int v5), some (.int v6), some (q_rf x5), some (.int (0 : Int32))] rfl rfl (Or.inr (q_rf_cat _)) rfl (g))))))))))) (l_Rs_heaping_L42 hd v0 v1 v2 v3 v6 x5 (fun _ _ h => h) q_FU v4 v5 (0 : Int32) σ4)) (fun t6 σ7 => ?_)
      exact q_J.step (fun g => j_iinc [some (.ref v0), some (.int v1), some (.int v2), some (.int v3), some (.int t6.1), some (.int t6.2), some (.int (v6 + (1 : Int32))), none, none] (v6 + (1 : Int32)) rfl rfl (by rw [k32_1]) (Or.inr rfl) rfl (j_goto rfl (g))) (l_Rs_heaping_L19 hd v0 v1 v2 v3 hX n t6.1 t6.2 (v6 + (1 : Int32)) σ7)
    exact J_some (fun h => j_icmp_t rfl (cc_ge_t h1) (j_weak (l := [none, none, none, some (.int v3), some (.int v4), some (.int v5), none, none, none]) (And.intro (Or.inl rfl) (And.intro (Or.inl rfl) (And.intro (Or.inl rfl) (And.intro (Or.inr rfl) (And.intro (Or.inr rfl) (And.intro (Or.inr rfl) (And.intro (Or.inl rfl) (And.intro (Or.inr rfl) (And.intro (Or.inr rfl) True.intro))))))))) (hX _ _ h)))

set_option maxRecDepth 100000 in
theorem b_Rs_heaping {fo : Option Nat} {d : Nat} (hd : 4 ≤ d + 1) {o : q_O} {σ' : q_H} (v0 : Nat) (v1 : Int32) (v2 : Int32) (v3 : Int32) (σ : q_H) : q_J (fun (r : Int32) (σ1 : q_H) => o = .inl (some (.int r)) ∧ σ' = σ1) (f_Rs_heaping v0 v1 v2 v3 σ) (q_G (q_rf fo) d m_Rs_heaping o σ' 0 [some (.ref v0), some (.int v1), some (.int v2), some (.int v3), none, none, none, none, none] [] σ) := by
  unfold f_Rs_heaping
  refine J_cl fun x2 σ1 hσ1 => ?_
  refine q_J.step (fun g => j_iload_n rfl rfl (j_iload_n rfl rfl (j_s1 [.int v1, .int v2] [] rfl rfl rfl rfl rfl (t_Rs_isScope (by omega) hσ1) (g)))) ?_
  refine J_ite (fun h3 => ?_) (fun h3 => ?_)
  · exact J_some (fun h => j_if_f rfl (cc_ne_f h3) (j_iconst (-1 : Int32) rfl k32_m1 (j_iret rfl rfl h)))
  refine J_sq (fun (t4 : Int32 × Int32) (σ5 : q_H) => q_G (q_rf fo) d m_Rs_heaping o σ' 113 [none, none, none, some (.int v3), some (.int t4.1), some (.int t4.2), none, none, none] [] σ5) (q_J.step (fun g => j_if_t rfl (cc_ne_t h3) (j_iconst (0 : Int32) rfl k32_0 (j_istore [some (.ref v0), some (.int v1), some (.int v2), some (.int v3), some (.int (0 : Int32)), none, none, none, none] rfl rfl (Or.inr rfl) rfl (j_iconst (0 : Int32) rfl k32_0 (j_istore [some (.ref v0), some (.int v1), some (.int v2), some (.int v3), some (.int (0 : Int32)), some (.int (0 : Int32)), none, none, none] rfl rfl (Or.inr rfl) rfl (j_iconst (0 : Int32) rfl k32_0 (j_istore [some (.ref v0), some (.int v1), some (.int v2), some (.int v3), some (.int (0 : Int32)), some (.int (0 : Int32)), some (.int (0 : Int32)), none, none] rfl rfl (Or.inr rfl) rfl (g)))))))) (l_Rs_heaping_L19 hd v0 v1 v2 v3 (fun _ _ h => h) q_FU (0 : Int32) (0 : Int32) (0 : Int32) σ1)) (fun t4 σ5 => ?_)
  refine J_cl fun x7 σ6 hσ6 => ?_
  refine J_cl fun x9 σ8 hσ8 => ?_
  exact J_some (fun h => j_iconst (5 : Int32) rfl k32_5 (j_iload rfl rfl (j_imul rfl (j_i2l rfl (j_iload rfl rfl (j_i2l rfl (j_s1 [.long (((5 : Int32) * t4.1).toInt64), .long t4.2.toInt64] [] rfl rfl rfl rfl rfl (t_Ra_of (by omega) hσ6) (j_iload_n rfl rfl (j_s1 [q_rf x7, .int v3] [] rfl rfl rfl rfl rfl (t_Rs_partOf (by omega) hσ8) (j_iret rfl rfl h))))))))))
theorem t_Rs_heaping {fo : Option Nat} {d : Nat} (hd : 4 ≤ d) {v0 : Nat} {v1 : Int32} {v2 : Int32} {v3 : Int32} {σ σ1 : q_H} {r : Int32} (h : f_Rs_heaping v0 v1 v2 v3 σ = some (r, σ1)) : q_Rel (q_rf fo) q_Ms d 127 [.ref v0, .int v1, .int v2, .int v3] σ (.inl (some (.int r))) σ1 := by
  obtain ⟨d, rfl⟩ : ∃ d1, d = d1 + 1 := ⟨d - 1, by omega⟩
  exact q_Rel.of rfl rfl (b_Rs_heaping hd _ _ _ _ σ _ _ h ⟨rfl, rfl⟩)

set_option maxRecDepth 100000 in
theorem b_Rs_fit {fo : Option Nat} {d : Nat} (hd : 4 ≤ d + 1) {o : q_O} {σ' : q_H} (v0 : Nat) (v1 : Int32) (v2 : Int32) (σ : q_H) : q_J (fun (r : Int64) (σ1 : q_H) => o = .inl (some (.long r)) ∧ σ' = σ1) (f_Rs_fit v0 v1 v2 σ) (q_G (q_rf fo) d m_Rs_fit o σ' 0 [some (.ref v0), some (.int v1), some (.int v2)] [] σ) := by
  unfold f_Rs_fit
  refine J_cl fun x2 σ1 hσ1 => ?_
  refine q_J.step (fun g => j_iload_n rfl rfl (j_s1 [.int v1] [] rfl rfl rfl rfl rfl (t_Rs_isTable (by omega) hσ1) (g))) ?_
  refine J_ite (fun h3 => ?_) (fun h3 => ?_)
  · exact J_some (fun h => j_if_t rfl (cc_eq_t h3) (j_ldc2 (-1 : Int64) rfl kw_m1 (j_lret rfl rfl h)))
  refine J_cl fun x5 σ4 hσ4 => ?_
  refine q_J.step (fun g => j_if_f rfl (cc_eq_f h3) (j_iconst (0 : Int32) rfl k32_0 (j_iload_n rfl rfl (j_bipush (16 : Int32) rfl kb_16 (j_s1 [.int (0 : Int32), .int v2, .int (16 : Int32)] [] rfl rfl rfl rfl rfl (t_Rs_isFrom (by omega) hσ4) (g)))))) ?_
  refine J_ite (fun h6 => ?_) (fun h6 => ?_)
  · exact J_some (fun h => j_if_f rfl (cc_ne_f h6) (j_ldc2 (-1 : Int64) rfl kw_m1 (j_lret rfl rfl h)))
  refine J_bind fun x7 hx7 => ?_
  refine J_bind fun w8 hw8 => ?_
  refine J_cl fun x10 σ9 hσ9 => ?_
  refine J_bind fun w11 hw11 => ?_
  refine J_cl fun x13 σ12 hσ12 => ?_
  exact J_some (fun h => j_if_t rfl (cc_ne_t h6) (j_aload_n rfl rfl (j_gfr rfl hx7 (j_iload_n rfl rfl (j_iload_n rfl rfl (j_aload_n rfl rfl (j_v1 [.ref v0] [.int v2, .int v1, .ref x7] rfl rfl rfl rfl rfl rfl hw8 (Or.inl rfl) (t_Rs_groupLines (by omega) hσ9) (j_v1 [.ref x7, .int v1, .int v2, .ref x10] [] rfl rfl rfl rfl rfl rfl hw11 (Or.inl rfl) (t_Li_misfit (by omega) hσ12) (j_lret rfl rfl h)))))))))
theorem t_Rs_fit {fo : Option Nat} {d : Nat} (hd : 4 ≤ d) {v0 : Nat} {v1 : Int32} {v2 : Int32} {σ σ1 : q_H} {r : Int64} (h : f_Rs_fit v0 v1 v2 σ = some (r, σ1)) : q_Rel (q_rf fo) q_Ms d 135 [.ref v0, .int v1, .int v2] σ (.inl (some (.long r))) σ1 := by
  obtain ⟨d, rfl⟩ : ∃ d1, d = d1 + 1 := ⟨d - 1, by omega⟩
  exact q_Rel.of rfl rfl (b_Rs_fit hd _ _ _ σ _ _ h ⟨rfl, rfl⟩)

set_option maxRecDepth 100000 in
theorem l_Rs_best_L34 {fo : Option Nat} {d : Nat} (hd : 4 ≤ d + 1) {o : q_O} {σ' : q_H} {E : (Int32) → q_H → Prop} (v0 : Nat) (v1 : Int32) (v2 : Nat) (hX : ∀ (t : Int32) σ1, E (t) σ1 → q_G (q_rf fo) d m_Rs_best o σ' 74 [none, none, none, some (.int t), none, none, none, none, none] [] σ1)  : ∀ (n : Nat) (v3 : Int32) (v4 : Int64) (v6 : Int32) (σ : q_H), q_J E (f_Rs_best_L34 v0 v1 v2 n v3 v4 v6 σ) (q_G (q_rf fo) d m_Rs_best o σ' 34 [some (.ref v0), some (.int v1), some (.ref v2), some (.int v3), some (.long v4), none, some (.int v6), none, none] [] σ)
  | 0, v3, v4, v6, σ => J_none
  | n + 1, v3, v4, v6, σ => by
    unfold f_Rs_best_L34
    refine q_J.step (fun g => j_iload rfl rfl (j_iconst (4 : Int32) rfl k32_4 (g))) ?_
    refine J_ite (fun h1 => ?_) (fun h1 => ?_)
    · refine J_bind fun x2 hx2 => ?_
      refine J_bind fun w3 hw3 => ?_
      refine J_cl fun x5 σ4 hσ4 => ?_
      refine q_J.step (fun g => j_icmp_f rfl (cc_ge_f h1) (j_aload_n rfl rfl (j_gfr rfl hx2 (j_iload rfl rfl (j_iload_n rfl rfl (j_aload_n rfl rfl (j_v1 [.ref x2, .int v6, .int v1, .ref v2] [] rfl rfl rfl rfl rfl rfl hw3 (Or.inl rfl) (t_Li_misfit (by omega) hσ4) (j_lstore [some (.ref v0), some (.int v1), some (.ref v2), some (.int v3), some (.long v4), none, some (.int v6), some (.long x5), none] rfl rfl (Or.inr rfl) rfl (j_lload rfl rfl (j_lload rfl rfl (j_lcmp rfl (g)))))))))))) ?_
      refine J_ite (fun h6 => ?_) (fun h6 => ?_)
      · exact q_J.step (fun g => j_if_f rfl (lc_ge_f h6) (j_iload rfl rfl (j_istore_n [some (.ref v0), some (.int v1), some (.ref v2), some (.int v6), some (.long v4), none, some (.int v6), some (.long x5), none] rfl rfl (Or.inr rfl) rfl (j_lload rfl rfl (j_lstore [some (.ref v0), some (.int v1), some (.ref v2), some (.int v6), some (.long x5), none, some (.int v6), some (.long x5), none] rfl rfl (Or.inr rfl) rfl (j_iinc [some (.ref v0), some (.int v1), some (.ref v2), some (.int v6), some (.long x5), none, some (.int (v6 + (1 : Int32))), some (.long x5), none] (v6 + (1 : Int32)) rfl rfl (by rw [k32_1]) (Or.inr True.intro) rfl (j_goto rfl (j_weak (l := [some (.ref v0), some (.int v1), some (.ref v2), some (.int v6), some (.long x5), none, some (.int (v6 + (1 : Int32))), none, none]) (And.intro (Or.inr rfl) (And.intro (Or.inr rfl) (And.intro (Or.inr rfl) (And.intro (Or.inr rfl) (And.intro (Or.inr rfl) (And.intro (Or.inr rfl) (And.intro (Or.inr rfl) (And.intro (Or.inl rfl) (And.intro (Or.inr rfl) True.intro))))))))) (g))))))))) (l_Rs_best_L34 hd v0 v1 v2 hX n v6 x5 (v6 + (1 : Int32)) σ4)
      exact q_J.step (fun g => j_if_t rfl (lc_ge_t h6) (j_iinc [some (.ref v0), some (.int v1), some (.ref v2), some (.int v3), some (.long v4), none, some (.int (v6 + (1 : Int32))), some (.long x5), none] (v6 + (1 : Int32)) rfl rfl (by rw [k32_1]) (Or.inr True.intro) rfl (j_goto rfl (j_weak (l := [some (.ref v0), some (.int v1), some (.ref v2), some (.int v3), some (.long v4), none, some (.int (v6 + (1 : Int32))), none, none]) (And.intro (Or.inr rfl) (And.intro (Or.inr rfl) (And.intro (Or.inr rfl) (And.intro (Or.inr rfl) (And.intro (Or.inr rfl) (And.intro (Or.inr rfl) (And.intro (Or.inr rfl) (And.intro (Or.inl rfl) (And.intro (Or.inr rfl) True.intro))))))))) (g))))) (l_Rs_best_L34 hd v0 v1 v2 hX n v3 v4 (v6 + (1 : Int32)) σ4)
    exact J_some (fun h => j_icmp_t rfl (cc_ge_t h1) (j_weak (l := [none, none, none, some (.int v3), none, none, none, none, none]) (And.intro (Or.inl rfl) (And.intro (Or.inl rfl) (And.intro (Or.inl rfl) (And.intro (Or.inr rfl) (And.intro (Or.inl rfl) (And.intro (Or.inr rfl) (And.intro (Or.inl rfl) (And.intro (Or.inr rfl) (And.intro (Or.inr rfl) True.intro))))))))) (hX _ _ h)))

set_option maxRecDepth 100000 in
theorem b_Rs_best {fo : Option Nat} {d : Nat} (hd : 4 ≤ d + 1) {o : q_O} {σ' : q_H} (v0 : Nat) (v1 : Int32) (σ : q_H) : q_J (fun (r : Int32) (σ1 : q_H) => o = .inl (some (.int r)) ∧ σ' = σ1) (f_Rs_best v0 v1 σ) (q_G (q_rf fo) d m_Rs_best o σ' 0 [some (.ref v0), some (.int v1), none, none, none, none, none, none, none] [] σ) := by
  unfold f_Rs_best
  refine J_cl fun x2 σ1 hσ1 => ?_
  refine q_J.step (fun g => j_iconst (0 : Int32) rfl k32_0 (j_iload_n rfl rfl (j_bipush (16 : Int32) rfl kb_16 (j_s1 [.int (0 : Int32), .int v1, .int (16 : Int32)] [] rfl rfl rfl rfl rfl (t_Rs_isFrom (by omega) hσ1) (g))))) ?_
  refine J_ite (fun h3 => ?_) (fun h3 => ?_)
  · exact J_some (fun h => j_if_f rfl (cc_ne_f h3) (j_iconst (-1 : Int32) rfl k32_m1 (j_iret rfl rfl h)))
  refine J_bind fun w4 hw4 => ?_
  refine J_cl fun x6 σ5 hσ5 => ?_
  refine J_bind fun x7 hx7 => ?_
  refine J_bind fun w8 hw8 => ?_
  refine J_cl fun x10 σ9 hσ9 => ?_
  refine J_sq (fun (t11 : Int32) (σ12 : q_H) => q_G (q_rf fo) d m_Rs_best o σ' 74 [none, none, none, some (.int t11), none, none, none, none, none] [] σ12) (q_J.step (fun g => j_if_t rfl (cc_ne_t h3) (j_aload_n rfl rfl (j_v1 [.ref v0] [] rfl rfl rfl rfl rfl rfl hw4 (Or.inl rfl) (t_Rs_groupLines (by omega) hσ5) (j_astore_n [some (.ref v0), some (.int v1), some (.ref x6), none, none, none, none, none, none] rfl rfl (Or.inr rfl) rfl (j_iconst (0 : Int32) rfl k32_0 (j_istore_n [some (.ref v0), some (.int v1), some (.ref x6), some (.int (0 : Int32)), none, none, none, none, none] rfl rfl (Or.inr rfl) rfl (j_aload_n rfl rfl (j_gfr rfl hx7 (j_iconst (0 : Int32) rfl k32_0 (j_iload_n rfl rfl (j_aload_n rfl rfl (j_v1 [.ref x7, .int (0 : Int32), .int v1, .ref x6] [] rfl rfl rfl rfl rfl rfl hw8 (Or.inl rfl) (t_Li_misfit (by omega) hσ9) (j_lstore [some (.ref v0), some (.int v1), some (.ref x6), some (.int (0 : Int32)), some (.long x10), none, none, none, none] rfl rfl (Or.inr rfl) rfl (j_iconst (1 : Int32) rfl k32_1 (j_istore [some (.ref v0), some (.int v1), some (.ref x6), some (.int (0 : Int32)), some (.long x10), none, some (.int (1 : Int32)), none, none] rfl rfl (Or.inr True.intro) rfl (g)))))))))))))))) (l_Rs_best_L34 hd v0 v1 x6 (fun _ _ h => h) q_FU (0 : Int32) x10 (1 : Int32) σ9)) (fun t11 σ12 => ?_)
  exact J_some (fun h => j_iload_n rfl rfl (j_iret rfl rfl h))
theorem t_Rs_best {fo : Option Nat} {d : Nat} (hd : 4 ≤ d) {v0 : Nat} {v1 : Int32} {σ σ1 : q_H} {r : Int32} (h : f_Rs_best v0 v1 σ = some (r, σ1)) : q_Rel (q_rf fo) q_Ms d 137 [.ref v0, .int v1] σ (.inl (some (.int r))) σ1 := by
  obtain ⟨d, rfl⟩ : ∃ d1, d = d1 + 1 := ⟨d - 1, by omega⟩
  exact q_Rel.of rfl rfl (b_Rs_best hd _ _ σ _ _ h ⟨rfl, rfl⟩)

set_option maxRecDepth 100000 in
theorem b_Rs_life {fo : Option Nat} {d : Nat} (hd : 4 ≤ d + 1) {o : q_O} {σ' : q_H} (v0 : Nat) (v1 : Int32) (v2 : Int32) (v3 : Int32) (σ : q_H) : q_J (fun (r : Int32) (σ1 : q_H) => o = .inl (some (.int r)) ∧ σ' = σ1) (f_Rs_life v0 v1 v2 v3 σ) (q_G (q_rf fo) d m_Rs_life o σ' 0 [some (.ref v0), some (.int v1), some (.int v2), some (.int v3)] [] σ) := by
  unfold f_Rs_life
  refine J_cl fun x2 σ1 hσ1 => ?_
  refine q_J.step (fun g => j_iload_n rfl rfl (j_s1 [.int v1] [] rfl rfl rfl rfl rfl (t_Rs_isTable (by omega) hσ1) (g))) ?_
  refine J_ite (fun h3 => ?_) (fun h3 => ?_)
  · exact J_some (fun h => j_if_t rfl (cc_eq_t h3) (j_iconst (-1 : Int32) rfl k32_m1 (j_iret rfl rfl h)))
  refine J_cl fun x5 σ4 hσ4 => ?_
  refine q_J.step (fun g => j_if_f rfl (cc_eq_f h3) (j_iconst (0 : Int32) rfl k32_0 (j_iload_n rfl rfl (j_bipush (17 : Int32) rfl kb_17 (j_s1 [.int (0 : Int32), .int v2, .int (17 : Int32)] [] rfl rfl rfl rfl rfl (t_Rs_isFrom (by omega) hσ4) (g)))))) ?_
  refine J_ite (fun h6 => ?_) (fun h6 => ?_)
  · exact J_some (fun h => j_if_f rfl (cc_ne_f h6) (j_iconst (-1 : Int32) rfl k32_m1 (j_iret rfl rfl h)))
  refine J_bind fun x7 hx7 => ?_
  refine J_bind fun w8 hw8 => ?_
  refine J_cl fun x10 σ9 hσ9 => ?_
  refine J_cl fun x12 σ11 hσ11 => ?_
  refine J_cl fun x14 σ13 hσ13 => ?_
  exact J_some (fun h => j_if_t rfl (cc_ne_t h6) (j_ldc2 (5 : Int64) rfl kw_5 (j_aload_n rfl rfl (j_gfr rfl hx7 (j_iload_n rfl rfl (j_iconst (0 : Int32) rfl k32_0 (j_iload_n rfl rfl (j_v1 [.ref x7, .int v1, .int (0 : Int32), .int v2] [.long (5 : Int64)] rfl rfl rfl rfl rfl rfl hw8 (Or.inl rfl) (t_Li_livingBetween (by omega) hσ9) (j_lmul rfl (j_ldc2 (2000 : Int64) rfl kw_2000 (j_s1 [.long ((5 : Int64) * x10), .long (2000 : Int64)] [] rfl rfl rfl rfl rfl (t_Ra_of (by omega) hσ11) (j_iload_n rfl rfl (j_s1 [q_rf x12, .int v3] [] rfl rfl rfl rfl rfl (t_Rs_partOf (by omega) hσ13) (j_iret rfl rfl h))))))))))))))
theorem t_Rs_life {fo : Option Nat} {d : Nat} (hd : 4 ≤ d) {v0 : Nat} {v1 : Int32} {v2 : Int32} {v3 : Int32} {σ σ1 : q_H} {r : Int32} (h : f_Rs_life v0 v1 v2 v3 σ = some (r, σ1)) : q_Rel (q_rf fo) q_Ms d 138 [.ref v0, .int v1, .int v2, .int v3] σ (.inl (some (.int r))) σ1 := by
  obtain ⟨d, rfl⟩ : ∃ d1, d = d1 + 1 := ⟨d - 1, by omega⟩
  exact q_Rel.of rfl rfl (b_Rs_life hd _ _ _ _ σ _ _ h ⟨rfl, rfl⟩)

set_option maxRecDepth 100000 in
theorem b_Rs_taken {fo : Option Nat} {d : Nat} (hd : 4 ≤ d + 1) {o : q_O} {σ' : q_H} (v0 : Nat) (v1 : Int32) (v2 : Int32) (σ : q_H) : q_J (fun (r : Int32) (σ1 : q_H) => o = .inl (some (.int r)) ∧ σ' = σ1) (f_Rs_taken v0 v1 v2 σ) (q_G (q_rf fo) d m_Rs_taken o σ' 0 [some (.ref v0), some (.int v1), some (.int v2), none] [] σ) := by
  unfold f_Rs_taken
  refine J_bind fun w1 hw1 => ?_
  refine J_cl fun x3 σ2 hσ2 => ?_
  refine q_J.step (fun g => j_aload_n rfl rfl (j_iload_n rfl rfl (j_iload_n rfl rfl (j_v1 [.ref v0, .int v1, .int v2] [] rfl rfl rfl rfl rfl rfl hw1 (Or.inl rfl) (t_Rs_pageOfWife (by omega) hσ2) (j_astore_nO (x := x3) [some (.ref v0), some (.int v1), some (.int v2), some (q_rf x3)] rfl rfl (Or.inr rfl) rfl (j_aload_nO (x := x3) rfl rfl (g))))))) ?_
  cases ha4 : x3 with
  | none =>
    try subst ha4
    exact J_some (fun h => j_non_f rfl (j_iconst (-1 : Int32) rfl k32_m1 (j_goto rfl (j_iret rfl rfl h))))
  | some a4 =>
    try subst ha4
    refine J_bind fun x5 hx5 => ?_
    refine J_bind fun x6 hx6 => ?_
    exact J_some (fun h => j_non_t rfl (j_aload_n rfl rfl (j_gfr rfl hx5 (j_iload_n rfl rfl (j_ial rfl hx6 (j_iret rfl rfl h))))))
theorem t_Rs_taken {fo : Option Nat} {d : Nat} (hd : 4 ≤ d) {v0 : Nat} {v1 : Int32} {v2 : Int32} {σ σ1 : q_H} {r : Int32} (h : f_Rs_taken v0 v1 v2 σ = some (r, σ1)) : q_Rel (q_rf fo) q_Ms d 142 [.ref v0, .int v1, .int v2] σ (.inl (some (.int r))) σ1 := by
  obtain ⟨d, rfl⟩ : ∃ d1, d = d1 + 1 := ⟨d - 1, by omega⟩
  exact q_Rel.of rfl rfl (b_Rs_taken hd _ _ _ σ _ _ h ⟨rfl, rfl⟩)

set_option maxRecDepth 100000 in
theorem b_Rs_lets {fo : Option Nat} {d : Nat} (hd : 4 ≤ d + 1) {o : q_O} {σ' : q_H} (v0 : Nat) (v1 : Int32) (v2 : Int32) (v3 : Int32) (σ : q_H) : q_J (fun (r : Int32) (σ1 : q_H) => o = .inl (some (.int r)) ∧ σ' = σ1) (f_Rs_lets v0 v1 v2 v3 σ) (q_G (q_rf fo) d m_Rs_lets o σ' 0 [some (.ref v0), some (.int v1), some (.int v2), some (.int v3), none] [] σ) := by
  unfold f_Rs_lets
  refine J_bind fun w1 hw1 => ?_
  refine J_cl fun x3 σ2 hσ2 => ?_
  refine J_cl fun x5 σ4 hσ4 => ?_
  refine q_J.step (fun g => j_aload_n rfl rfl (j_iload_n rfl rfl (j_iload_n rfl rfl (j_v1 [.ref v0, .int v2, .int v3] [] rfl rfl rfl rfl rfl rfl hw1 (Or.inl rfl) (t_Rs_pageOfWife (by omega) hσ2) (j_astoreO (x := x3) [some (.ref v0), some (.int v1), some (.int v2), some (.int v3), some (q_rf x3)] rfl rfl (Or.inr rfl) rfl (j_iconst (0 : Int32) rfl k32_0 (j_iload_n rfl rfl (j_iconst (3 : Int32) rfl k32_3 (j_s1 [.int (0 : Int32), .int v1, .int (3 : Int32)] [] rfl rfl rfl rfl rfl (t_Rs_isFrom (by omega) hσ4) (g)))))))))) ?_
  refine J_ite (fun h6 => ?_) (fun h6 => ?_)
  · exact J_some (fun h => j_if_t rfl (cc_eq_t h6) (j_iconst (-1 : Int32) rfl k32_m1 (j_iret rfl rfl h)))
  refine q_J.step (fun g => j_if_f rfl (cc_eq_f h6) (j_aloadO (x := x3) rfl rfl (g))) ?_
  cases ha7 : x3 with
  | none =>
    try subst ha7
    exact J_some (fun h => j_non_f rfl (j_iconst (-1 : Int32) rfl k32_m1 (j_iret rfl rfl h)))
  | some a7 =>
    try subst ha7
    refine J_bind fun w8 hw8 => ?_
    refine J_cl fun _ σ9 hσ9 => ?_
    refine J_bind fun x11 hx11 => ?_
    refine J_bind fun x12 hx12 => ?_
    refine J_bind fun x13 hx13 => ?_
    refine J_bind fun w14 hw14 => ?_
    refine J_cl fun x16 σ15 hσ15 => ?_
    refine q_J.step (fun g => j_non_t rfl (j_aload_n rfl rfl (j_iload_n rfl rfl (j_aload rfl rfl (j_iload_n rfl rfl (j_v0 [.ref v0, .int v2, .ref a7, .int v3] [] rfl rfl rfl rfl rfl rfl hw8 (Or.inl rfl) (t_Rs_fillFacts (by omega) hσ9) (j_aload_n rfl rfl (j_gfr rfl hx11 (j_iload_n rfl rfl (j_aal rfl rfl hx12 (j_aload_n rfl rfl (j_gfr rfl hx13 (j_v1 [.ref x12, .ref x13] [] rfl rfl rfl rfl rfl rfl hw14 (Or.inl rfl) (t_La_allows (by omega) hσ15) (g)))))))))))))) ?_
    refine J_ite (fun h17 => ?_) (fun h17 => ?_)
    · exact J_some (fun h => j_if_t rfl (cc_eq_t h17) (j_iconst (0 : Int32) rfl k32_0 (j_iret rfl rfl h)))
    exact J_some (fun h => j_if_f rfl (cc_eq_f h17) (j_iconst (1 : Int32) rfl k32_1 (j_goto rfl (j_iret rfl rfl h))))
theorem t_Rs_lets {fo : Option Nat} {d : Nat} (hd : 4 ≤ d) {v0 : Nat} {v1 : Int32} {v2 : Int32} {v3 : Int32} {σ σ1 : q_H} {r : Int32} (h : f_Rs_lets v0 v1 v2 v3 σ = some (r, σ1)) : q_Rel (q_rf fo) q_Ms d 145 [.ref v0, .int v1, .int v2, .int v3] σ (.inl (some (.int r))) σ1 := by
  obtain ⟨d, rfl⟩ : ∃ d1, d = d1 + 1 := ⟨d - 1, by omega⟩
  exact q_Rel.of rfl rfl (b_Rs_lets hd _ _ _ _ σ _ _ h ⟨rfl, rfl⟩)

set_option maxRecDepth 100000 in
theorem l_Rs_countUnlet_L26 {fo : Option Nat} {d : Nat} (hd : 4 ≤ d + 1) {o : q_O} {σ' : q_H} {E : (Int32) → q_H → Prop} (v0 : Nat) (v1 : Option Nat) (v2 : Nat) (v4 : Int32) (v5 : Option Nat) (hX : ∀ (t : Int32) σ1, E (t) σ1 → q_G (q_rf fo) d m_Rs_countUnlet o σ' 103 [some (.ref v0), some (q_rf v1), some (.ref v2), some (.int t), some (.int v4), none, none] [] σ1)  : ∀ (n : Nat) (v3 : Int32) (v6 : Int32) (σ : q_H), q_J E (f_Rs_countUnlet_L26 v0 v1 v2 v4 v5 n v3 v6 σ) (q_G (q_rf fo) d m_Rs_countUnlet o σ' 26 [some (.ref v0), some (q_rf v1), some (.ref v2), some (.int v3), some (.int v4), some (q_rf v5), some (.int v6)] [] σ)
  | 0, v3, v6, σ => J_none
  | n + 1, v3, v6, σ => by
    unfold f_Rs_countUnlet_L26
    refine q_J.step (fun g => j_aloadO (x := v5) rfl rfl (g)) ?_
    cases ha1 : v5 with
    | none =>
      try subst ha1
      exact J_some (fun h => j_nul_t rfl (j_weak (l := [some (.ref v0), some (q_rf v1), some (.ref v2), some (.int v3), some (.int v4), none, none]) (And.intro (Or.inr rfl) (And.intro (Or.inr rfl) (And.intro (Or.inr rfl) (And.intro (Or.inr rfl) (And.intro (Or.inr rfl) (And.intro (Or.inl rfl) (And.intro (Or.inl rfl) True.intro))))))) (hX _ _ h)))
    | some a1 =>
      try subst ha1
      refine J_bind fun x2 hx2 => ?_
      refine q_J.step (fun g => j_nul_f rfl (j_iload rfl rfl (j_aload rfl rfl (j_gfi rfl hx2 (g))))) ?_
      refine J_ite (fun h3 => ?_) (fun h3 => ?_)
      · refine J_bind fun x4 hx4 => ?_
        refine J_bind fun x5 hx5 => ?_
        refine q_J.step (fun g => j_icmp_f rfl (cc_ge_f h3) (j_aload rfl rfl (j_gfr rfl hx4 (j_iload rfl rfl (j_ial rfl hx5 (j_iconst (-1 : Int32) rfl k32_m1 (g))))))) ?_
        refine J_ite (fun h6 => ?_) (fun h6 => ?_)
        · exact q_J.step (fun g => j_icmp_t rfl (cc_eq_t h6) (j_iinc [some (.ref v0), some (q_rf v1), some (.ref v2), some (.int v3), some (.int v4), some (.ref a1), some (.int (v6 + (1 : Int32)))] (v6 + (1 : Int32)) rfl rfl (by rw [k32_1]) (Or.inr rfl) rfl (j_goto rfl (g)))) (l_Rs_countUnlet_L26 hd v0 v1 v2 v4 (some a1) hX n v3 (v6 + (1 : Int32)) σ)
        refine J_bind fun w7 hw7 => ?_
        refine J_cl fun _ σ8 hσ8 => ?_
        refine q_J.step (fun g => j_icmp_f rfl (cc_eq_f h6) (j_aload_n rfl rfl (j_iload rfl rfl (j_aload rfl rfl (j_iload rfl rfl (j_v0 [.ref v0, .int v4, .ref a1, .int v6] [] rfl rfl rfl rfl rfl rfl hw7 (Or.inl rfl) (t_Rs_fillFacts (by omega) hσ8) (j_iload_n rfl rfl (j_aload_nO (x := v1) rfl rfl (g))))))))) ?_
        cases ha10 : v1 with
        | none =>
          try subst ha10
          refine J_bind fun x11 hx11 => ?_
          refine J_bind fun w12 hw12 => ?_
          refine J_cl fun x14 σ13 hσ13 => ?_
          refine q_J.step (fun g => j_nul_t rfl (j_aload_n rfl rfl (j_aload_n rfl rfl (j_gfr rfl hx11 (j_v1 [.ref v2, .ref x11] [.int v3] rfl rfl rfl rfl rfl rfl hw12 (Or.inl rfl) (t_La_allows (by omega) hσ13) (g)))))) ?_
          refine J_ite (fun h15 => ?_) (fun h15 => ?_)
          · exact q_J.step (fun g => j_if_f rfl (cc_ne_f h15) (j_iconst (1 : Int32) rfl k32_1 (j_goto rfl (j_iadd rfl (j_istore_n [some (.ref v0), some (.null), some (.ref v2), some (.int (v3 + (1 : Int32))), some (.int v4), some (.ref a1), some (.int v6)] rfl rfl (Or.inr rfl) rfl (j_iinc [some (.ref v0), some (.null), some (.ref v2), some (.int (v3 + (1 : Int32))), some (.int v4), some (.ref a1), some (.int (v6 + (1 : Int32)))] (v6 + (1 : Int32)) rfl rfl (by rw [k32_1]) (Or.inr rfl) rfl (j_goto rfl (g)))))))) (l_Rs_countUnlet_L26 hd v0 none v2 v4 (some a1) hX n (v3 + (1 : Int32)) (v6 + (1 : Int32)) σ13)
          exact q_J.step (fun g => j_if_t rfl (cc_ne_t h15) (j_iconst (0 : Int32) rfl k32_0 (j_iadd rfl (j_istore_n [some (.ref v0), some (.null), some (.ref v2), some (.int (v3 + (0 : Int32))), some (.int v4), some (.ref a1), some (.int v6)] rfl rfl (Or.inr rfl) rfl (j_iinc [some (.ref v0), some (.null), some (.ref v2), some (.int (v3 + (0 : Int32))), some (.int v4), some (.ref a1), some (.int (v6 + (1 : Int32)))] (v6 + (1 : Int32)) rfl rfl (by rw [k32_1]) (Or.inr rfl) rfl (j_goto rfl (g))))))) (l_Rs_countUnlet_L26 hd v0 none v2 v4 (some a1) hX n (v3 + (0 : Int32)) (v6 + (1 : Int32)) σ13)
        | some a10 =>
          try subst ha10
          refine J_bind fun x16 hx16 => ?_
          refine J_bind fun w17 hw17 => ?_
          refine J_cl fun x19 σ18 hσ18 => ?_
          refine q_J.step (fun g => j_nul_f rfl (j_aload_n rfl rfl (j_aload_n rfl rfl (j_gfr rfl hx16 (j_v1 [.ref a10, .ref x16] [.int v3] rfl rfl rfl rfl rfl rfl hw17 (Or.inl rfl) (t_La_allows (by omega) hσ18) (g)))))) ?_
          refine J_ite (fun h20 => ?_) (fun h20 => ?_)
          · exact q_J.step (fun g => j_if_t rfl (cc_eq_t h20) (j_iconst (0 : Int32) rfl k32_0 (j_iadd rfl (j_istore_n [some (.ref v0), some (.ref a10), some (.ref v2), some (.int (v3 + (0 : Int32))), some (.int v4), some (.ref a1), some (.int v6)] rfl rfl (Or.inr rfl) rfl (j_iinc [some (.ref v0), some (.ref a10), some (.ref v2), some (.int (v3 + (0 : Int32))), some (.int v4), some (.ref a1), some (.int (v6 + (1 : Int32)))] (v6 + (1 : Int32)) rfl rfl (by rw [k32_1]) (Or.inr rfl) rfl (j_goto rfl (g))))))) (l_Rs_countUnlet_L26 hd v0 (some a10) v2 v4 (some a1) hX n (v3 + (0 : Int32)) (v6 + (1 : Int32)) σ18)
          refine J_bind fun x21 hx21 => ?_
          refine J_bind fun w22 hw22 => ?_
          refine J_cl fun x24 σ23 hσ23 => ?_
          refine q_J.step (fun g => j_if_f rfl (cc_eq_f h20) (j_aload_n rfl rfl (j_aload_n rfl rfl (j_gfr rfl hx21 (j_v1 [.ref v2, .ref x21] [.int v3] rfl rfl rfl rfl rfl rfl hw22 (Or.inl rfl) (t_La_allows (by omega) hσ23) (g)))))) ?_
          refine J_ite (fun h25 => ?_) (fun h25 => ?_)
          · exact q_J.step (fun g => j_if_f rfl (cc_ne_f h25) (j_iconst (1 : Int32) rfl k32_1 (j_goto rfl (j_iadd rfl (j_istore_n [some (.ref v0), some (.ref a10), some (.ref v2), some (.int (v3 + (1 : Int32))), some (.int v4), some (.ref a1), some (.int v6)] rfl rfl (Or.inr rfl) rfl (j_iinc [some (.ref v0), some (.ref a10), some (.ref v2), some (.int (v3 + (1 : Int32))), some (.int v4), some (.ref a1), some (.int (v6 + (1 : Int32)))] (v6 + (1 : Int32)) rfl rfl (by rw [k32_1]) (Or.inr rfl) rfl (j_goto rfl (g)))))))) (l_Rs_countUnlet_L26 hd v0 (some a10) v2 v4 (some a1) hX n (v3 + (1 : Int32)) (v6 + (1 : Int32)) σ23)
          exact q_J.step (fun g => j_if_t rfl (cc_ne_t h25) (j_iconst (0 : Int32) rfl k32_0 (j_iadd rfl (j_istore_n [some (.ref v0), some (.ref a10), some (.ref v2), some (.int (v3 + (0 : Int32))), some (.int v4), some (.ref a1), some (.int v6)] rfl rfl (Or.inr rfl) rfl (j_iinc [some (.ref v0), some (.ref a10), some (.ref v2), some (.int (v3 + (0 : Int32))), some (.int v4), some (.ref a1), some (.int (v6 + (1 : Int32)))] (v6 + (1 : Int32)) rfl rfl (by rw [k32_1]) (Or.inr rfl) rfl (j_goto rfl (g))))))) (l_Rs_countUnlet_L26 hd v0 (some a10) v2 v4 (some a1) hX n (v3 + (0 : Int32)) (v6 + (1 : Int32)) σ23)
      exact J_some (fun h => j_icmp_t rfl (cc_ge_t h3) (j_weak (l := [some (.ref v0), some (q_rf v1), some (.ref v2), some (.int v3), some (.int v4), none, none]) (And.intro (Or.inr rfl) (And.intro (Or.inr rfl) (And.intro (Or.inr rfl) (And.intro (Or.inr rfl) (And.intro (Or.inr rfl) (And.intro (Or.inl rfl) (And.intro (Or.inl rfl) True.intro))))))) (hX _ _ h)))

set_option maxRecDepth 100000 in
theorem l_Rs_countUnlet_L5 {fo : Option Nat} {d : Nat} (hd : 4 ≤ d + 1) {o : q_O} {σ' : q_H} {E : (Int32) → q_H → Prop} (v0 : Nat) (v1 : Option Nat) (v2 : Nat) (hX : ∀ (t : Int32) σ1, E (t) σ1 → q_G (q_rf fo) d m_Rs_countUnlet o σ' 109 [none, none, none, some (.int t), none, none, none] [] σ1)  : ∀ (n : Nat) (v3 : Int32) (v4 : Int32) (σ : q_H), q_J E (f_Rs_countUnlet_L5 v0 v1 v2 n v3 v4 σ) (q_G (q_rf fo) d m_Rs_countUnlet o σ' 5 [some (.ref v0), some (q_rf v1), some (.ref v2), some (.int v3), some (.int v4), none, none] [] σ)
  | 0, v3, v4, σ => J_none
  | n + 1, v3, v4, σ => by
    unfold f_Rs_countUnlet_L5
    refine q_J.step (fun g => j_iload rfl rfl (j_bipush (24 : Int32) rfl kb_24 (g))) ?_
    refine J_ite (fun h1 => ?_) (fun h1 => ?_)
    · refine J_bind fun x2 hx2 => ?_
      refine J_bind fun w3 hw3 => ?_
      refine J_cl fun x5 σ4 hσ4 => ?_
      refine J_sq (fun (t6 : Int32) (σ7 : q_H) => q_G (q_rf fo) d m_Rs_countUnlet o σ' 103 [some (.ref v0), some (q_rf v1), some (.ref v2), some (.int t6), some (.int v4), none, none] [] σ7) (q_J.step (fun g => j_icmp_f rfl (cc_ge_f h1) (j_aload_n rfl rfl (j_gfr rfl hx2 (j_iload rfl rfl (j_v1 [.ref x2, .int v4] [] rfl rfl rfl rfl rfl rfl hw3 (Or.inl rfl) (t_Sf_pageOf (by omega) hσ4) (j_astoreO (x := x5) [some (.ref v0), some (q_rf v1), some (.ref v2), some (.int v3), some (.int v4), some (q_rf x5), none] rfl rfl (Or.inr rfl) rfl (j_iconst (0 : Int32) rfl k32_0 (j_istore [some (.ref v0), some (q_rf v1), some (.ref v2), some (.int v3), some (.int v4), some (q_rf x5), some (.int (0 : Int32))] rfl rfl (Or.inr (q_rf_cat _)) rfl (g))))))))) (l_Rs_countUnlet_L26 hd v0 v1 v2 v4 x5 (fun _ _ h => h) q_FU v3 (0 : Int32) σ4)) (fun t6 σ7 => ?_)
      exact q_J.step (fun g => j_iinc [some (.ref v0), some (q_rf v1), some (.ref v2), some (.int t6), some (.int (v4 + (1 : Int32))), none, none] (v4 + (1 : Int32)) rfl rfl (by rw [k32_1]) (Or.inr rfl) rfl (j_goto rfl (g))) (l_Rs_countUnlet_L5 hd v0 v1 v2 hX n t6 (v4 + (1 : Int32)) σ7)
    exact J_some (fun h => j_icmp_t rfl (cc_ge_t h1) (j_weak (l := [none, none, none, some (.int v3), none, none, none]) (And.intro (Or.inl rfl) (And.intro (Or.inl rfl) (And.intro (Or.inl rfl) (And.intro (Or.inr rfl) (And.intro (Or.inl rfl) (And.intro (Or.inr rfl) (And.intro (Or.inr rfl) True.intro))))))) (hX _ _ h)))

set_option maxRecDepth 100000 in
theorem b_Rs_countUnlet {fo : Option Nat} {d : Nat} (hd : 4 ≤ d + 1) {o : q_O} {σ' : q_H} (v0 : Nat) (v1 : Option Nat) (v2 : Nat) (σ : q_H) : q_J (fun (r : Int32) (σ1 : q_H) => o = .inl (some (.int r)) ∧ σ' = σ1) (f_Rs_countUnlet v0 v1 v2 σ) (q_G (q_rf fo) d m_Rs_countUnlet o σ' 0 [some (.ref v0), some (q_rf v1), some (.ref v2), none, none, none, none] [] σ) := by
  unfold f_Rs_countUnlet
  refine J_sq (fun (t1 : Int32) (σ2 : q_H) => q_G (q_rf fo) d m_Rs_countUnlet o σ' 109 [none, none, none, some (.int t1), none, none, none] [] σ2) (q_J.step (fun g => j_iconst (0 : Int32) rfl k32_0 (j_istore_n [some (.ref v0), some (q_rf v1), some (.ref v2), some (.int (0 : Int32)), none, none, none] rfl rfl (Or.inr rfl) rfl (j_iconst (0 : Int32) rfl k32_0 (j_istore [some (.ref v0), some (q_rf v1), some (.ref v2), some (.int (0 : Int32)), some (.int (0 : Int32)), none, none] rfl rfl (Or.inr rfl) rfl (g))))) (l_Rs_countUnlet_L5 hd v0 v1 v2 (fun _ _ h => h) q_FU (0 : Int32) (0 : Int32) σ)) (fun t1 σ2 => ?_)
  exact J_some (fun h => j_iload_n rfl rfl (j_iret rfl rfl h))
theorem t_Rs_countUnlet {fo : Option Nat} {d : Nat} (hd : 4 ≤ d) {v0 : Nat} {v1 : Option Nat} {v2 : Nat} {σ σ1 : q_H} {r : Int32} (h : f_Rs_countUnlet v0 v1 v2 σ = some (r, σ1)) : q_Rel (q_rf fo) q_Ms d 148 [.ref v0, q_rf v1, .ref v2] σ (.inl (some (.int r))) σ1 := by
  obtain ⟨d, rfl⟩ : ∃ d1, d = d1 + 1 := ⟨d - 1, by omega⟩
  cases v1 <;> exact q_Rel.of rfl rfl (b_Rs_countUnlet hd _ _ _ σ _ _ h ⟨rfl, rfl⟩)

set_option maxRecDepth 100000 in
theorem b_Rs_world {fo : Option Nat} {d : Nat} (hd : 4 ≤ d + 1) {o : q_O} {σ' : q_H} (v0 : Nat) (v1 : Int32) (v2 : Int32) (v3 : Int32) (v4 : Int32) (v5 : Int32) (v6 : Int32) (σ : q_H) : q_J (fun (r : Int32) (σ1 : q_H) => o = .inl (some (.int r)) ∧ σ' = σ1) (f_Rs_world v0 v1 v2 v3 v4 v5 v6 σ) (q_G (q_rf fo) d m_Rs_world o σ' 0 [some (.ref v0), some (.int v1), some (.int v2), some (.int v3), some (.int v4), some (.int v5), some (.int v6)] [] σ) := by
  unfold f_Rs_world
  refine J_cl fun x2 σ1 hσ1 => ?_
  refine q_J.step (fun g => j_iconst (0 : Int32) rfl k32_0 (j_iload_n rfl rfl (j_sipush (9999 : Int32) rfl ks_9999 (j_s1 [.int (0 : Int32), .int v1, .int (9999 : Int32)] [] rfl rfl rfl rfl rfl (t_Rs_isFrom (by omega) hσ1) (g))))) ?_
  refine J_ite (fun h3 => ?_) (fun h3 => ?_)
  · exact J_some (fun h => j_if_t rfl (cc_eq_t h3) (j_iconst (-1 : Int32) rfl k32_m1 (j_iret rfl rfl h)))
  refine J_cl fun x5 σ4 hσ4 => ?_
  refine q_J.step (fun g => j_if_f rfl (cc_eq_f h3) (j_iload_n rfl rfl (j_iload_n rfl rfl (j_iload rfl rfl (j_iload rfl rfl (j_s1 [.int v2, .int v3, .int v4, .int v5] [] rfl rfl rfl rfl rfl (t_Rs_isWorld (by omega) hσ4) (g))))))) ?_
  refine J_ite (fun h6 => ?_) (fun h6 => ?_)
  · exact J_some (fun h => j_if_t rfl (cc_eq_t h6) (j_iconst (-1 : Int32) rfl k32_m1 (j_iret rfl rfl h)))
  refine J_cl fun x8 σ7 hσ7 => ?_
  refine q_J.step (fun g => j_if_f rfl (cc_eq_f h6) (j_iconst (0 : Int32) rfl k32_0 (j_iload rfl rfl (j_iconst (1 : Int32) rfl k32_1 (j_s1 [.int (0 : Int32), .int v6, .int (1 : Int32)] [] rfl rfl rfl rfl rfl (t_Rs_isFrom (by omega) hσ7) (g)))))) ?_
  refine J_ite (fun h9 => ?_) (fun h9 => ?_)
  · exact J_some (fun h => j_if_f rfl (cc_ne_f h9) (j_iconst (-1 : Int32) rfl k32_m1 (j_iret rfl rfl h)))
  refine J_bind fun x10 hx10 => ?_
  refine J_bind fun x11 hx11 => ?_
  refine J_bind fun w12 hw12 => ?_
  refine J_cl fun _ σ13 hσ13 => ?_
  refine q_J.step (fun g => j_if_t rfl (cc_ne_t h9) (j_aload_n rfl rfl (j_gfr rfl hx10 (j_iload_n rfl rfl (j_iload_n rfl rfl (j_aload_n rfl rfl (j_gfr rfl hx11 (j_iload_n rfl rfl (j_iload rfl rfl (j_iload rfl rfl (j_v0 [.ref x10, .int v1, .int v2, .ref x11, .int v3, .int v4, .int v5] [] rfl rfl rfl rfl rfl rfl hw12 (Or.inl rfl) (t_Wo_make (by omega) hσ13) (j_iload rfl rfl (g))))))))))))) ?_
  refine J_ite (fun h15 => ?_) (fun h15 => ?_)
  · refine J_bind fun x16 hx16 => ?_
    refine J_bind fun x17 hx17 => ?_
    exact J_some (fun h => j_if_f rfl (cc_ne_f h15) (j_aload_n rfl rfl (j_gfr rfl hx16 (j_gfi rfl hx17 (j_goto rfl (j_iret rfl rfl h))))))
  refine J_bind fun x18 hx18 => ?_
  refine J_bind fun x19 hx19 => ?_
  exact J_some (fun h => j_if_t rfl (cc_ne_t h15) (j_aload_n rfl rfl (j_gfr rfl hx18 (j_gfi rfl hx19 (j_iret rfl rfl h)))))
theorem t_Rs_world {fo : Option Nat} {d : Nat} (hd : 4 ≤ d) {v0 : Nat} {v1 : Int32} {v2 : Int32} {v3 : Int32} {v4 : Int32} {v5 : Int32} {v6 : Int32} {σ σ1 : q_H} {r : Int32} (h : f_Rs_world v0 v1 v2 v3 v4 v5 v6 σ = some (r, σ1)) : q_Rel (q_rf fo) q_Ms d 151 [.ref v0, .int v1, .int v2, .int v3, .int v4, .int v5, .int v6] σ (.inl (some (.int r))) σ1 := by
  obtain ⟨d, rfl⟩ : ∃ d1, d = d1 + 1 := ⟨d - 1, by omega⟩
  exact q_Rel.of rfl rfl (b_Rs_world hd _ _ _ _ _ _ _ σ _ _ h ⟨rfl, rfl⟩)

set_option maxRecDepth 100000 in
theorem l_Ta_codesOf_L4 {fo : Option Nat} {d : Nat} (hd : 5 ≤ d + 1) {o : q_O} {σ' : q_H} {E : (Int32) → q_H → Prop} (v0 : Nat) (hX : ∀ (t : Int32) σ1, E (t) σ1 → q_G (q_rf fo) d m_Ta_codesOf o σ' 36 [some (.ref v0), some (.int t), none, none, none] [] σ1)  : ∀ (n : Nat) (v1 : Int32) (v2 : Int32) (σ : q_H), q_J E (f_Ta_codesOf_L4 v0 n v1 v2 σ) (q_G (q_rf fo) d m_Ta_codesOf o σ' 4 [some (.ref v0), some (.int v1), some (.int v2), none, none] [] σ)
  | 0, v1, v2, σ => J_none
  | n + 1, v1, v2, σ => by
    unfold f_Ta_codesOf_L4
    refine J_bind fun w1 hw1 => ?_
    refine J_cl fun x3 σ2 hσ2 => ?_
    refine q_J.step (fun g => j_iload_n rfl rfl (j_aload_n rfl rfl (j_v1 [.ref v0] [.int v2] rfl rfl rfl rfl rfl rfl hw1 (Or.inr ⟨rfl, rfl⟩) (t_St_length (by omega) hσ2) (g)))) ?_
    refine J_ite (fun h4 => ?_) (fun h4 => ?_)
    · refine J_bind fun w5 hw5 => ?_
      refine J_cl fun x7 σ6 hσ6 => ?_
      refine q_J.step (fun g => j_icmp_f rfl (cc_ge_f h4) (j_iload_n rfl rfl (j_aload_n rfl rfl (j_iload_n rfl rfl (j_v1 [.ref v0, .int v2] [.int v1] rfl rfl rfl rfl rfl rfl hw5 (Or.inr ⟨rfl, rfl⟩) (t_St_charAt (by omega) hσ6) (j_bipush (32 : Int32) rfl kb_32 (g))))))) ?_
      refine J_ite (fun h8 => ?_) (fun h8 => ?_)
      · exact q_J.step (fun g => j_icmp_f rfl (cc_ne_f h8) (j_iconst (1 : Int32) rfl k32_1 (j_goto rfl (j_iadd rfl (j_istore_n [some (.ref v0), some (.int (v1 + (1 : Int32))), some (.int v2), none, none] rfl rfl (Or.inr rfl) rfl (j_iinc [some (.ref v0), some (.int (v1 + (1 : Int32))), some (.int (v2 + (1 : Int32))), none, none] (v2 + (1 : Int32)) rfl rfl (by rw [k32_1]) (Or.inr rfl) rfl (j_goto rfl (g)))))))) (l_Ta_codesOf_L4 hd v0 hX n (v1 + (1 : Int32)) (v2 + (1 : Int32)) σ6)
      exact q_J.step (fun g => j_icmp_t rfl (cc_ne_t h8) (j_iconst (0 : Int32) rfl k32_0 (j_iadd rfl (j_istore_n [some (.ref v0), some (.int (v1 + (0 : Int32))), some (.int v2), none, none] rfl rfl (Or.inr rfl) rfl (j_iinc [some (.ref v0), some (.int (v1 + (0 : Int32))), some (.int (v2 + (1 : Int32))), none, none] (v2 + (1 : Int32)) rfl rfl (by rw [k32_1]) (Or.inr rfl) rfl (j_goto rfl (g))))))) (l_Ta_codesOf_L4 hd v0 hX n (v1 + (0 : Int32)) (v2 + (1 : Int32)) σ6)
    exact J_some (fun h => j_icmp_t rfl (cc_ge_t h4) (j_weak (l := [some (.ref v0), some (.int v1), none, none, none]) (And.intro (Or.inr rfl) (And.intro (Or.inr rfl) (And.intro (Or.inl rfl) (And.intro (Or.inr rfl) (And.intro (Or.inr rfl) True.intro))))) (hX _ _ h)))

set_option maxRecDepth 100000 in
theorem l_Ta_codesOf_L45 {fo : Option Nat} {d : Nat} (hd : 5 ≤ d + 1) {o : q_O} {σ' : q_H} {E : (Unit) → q_H → Prop} (v0 : Nat) (v1 : Int32) (v2 : Nat) (hX : ∀ (t : Unit) σ1, E (t) σ1 → q_G (q_rf fo) d m_Ta_codesOf o σ' 97 [none, none, some (.ref v2), none, none] [] σ1)  : ∀ (n : Nat) (v3 : Int32) (v4 : Int32) (σ : q_H), q_J E (f_Ta_codesOf_L45 v0 v1 v2 n v3 v4 σ) (q_G (q_rf fo) d m_Ta_codesOf o σ' 45 [some (.ref v0), some (.int v1), some (.ref v2), some (.int v3), some (.int v4)] [] σ)
  | 0, v3, v4, σ => J_none
  | n + 1, v3, v4, σ => by
    unfold f_Ta_codesOf_L45
    refine J_bind fun w1 hw1 => ?_
    refine J_cl fun x3 σ2 hσ2 => ?_
    refine q_J.step (fun g => j_iload rfl rfl (j_aload_n rfl rfl (j_v1 [.ref v0] [.int v4] rfl rfl rfl rfl rfl rfl hw1 (Or.inr ⟨rfl, rfl⟩) (t_St_length (by omega) hσ2) (g)))) ?_
    refine J_ite (fun h4 => ?_) (fun h4 => ?_)
    · refine q_J.step (fun g => j_icmp_f rfl (cc_ge_f h4) (j_iload_n rfl rfl (j_iload_n rfl rfl (g)))) ?_
      refine J_ite (fun h5 => ?_) (fun h5 => ?_)
      · refine J_bind fun w6 hw6 => ?_
        refine J_cl fun x8 σ7 hσ7 => ?_
        refine q_J.step (fun g => j_icmp_f rfl (cc_ge_f h5) (j_aload_n rfl rfl (j_iload rfl rfl (j_v1 [.ref v0, .int v4] [] rfl rfl rfl rfl rfl rfl hw6 (Or.inr ⟨rfl, rfl⟩) (t_St_charAt (by omega) hσ7) (j_bipush (32 : Int32) rfl kb_32 (g)))))) ?_
        refine J_ite (fun h9 => ?_) (fun h9 => ?_)
        · exact q_J.step (fun g => j_icmp_f rfl (cc_ne_f h9) (j_iinc [some (.ref v0), some (.int v1), some (.ref v2), some (.int (v3 + (1 : Int32))), some (.int v4)] (v3 + (1 : Int32)) rfl rfl (by rw [k32_1]) (Or.inr rfl) rfl (j_goto rfl (j_iinc [some (.ref v0), some (.int v1), some (.ref v2), some (.int (v3 + (1 : Int32))), some (.int (v4 + (1 : Int32)))] (v4 + (1 : Int32)) rfl rfl (by rw [k32_1]) (Or.inr rfl) rfl (j_goto rfl (g)))))) (l_Ta_codesOf_L45 hd v0 v1 v2 hX n (v3 + (1 : Int32)) (v4 + (1 : Int32)) σ7)
        refine J_bind fun x10 hx10 => ?_
        refine J_bind fun w11 hw11 => ?_
        refine J_cl fun x13 σ12 hσ12 => ?_
        refine J_cl fun x15 σ14 hσ14 => ?_
        refine J_bind fun σ16 hσ16 => ?_
        exact q_J.step (fun g => j_icmp_t rfl (cc_ne_t h9) (j_aload_n rfl rfl (j_iload_n rfl rfl (j_aload_n rfl rfl (j_iload_n rfl rfl (j_lal rfl hx10 (j_aload_n rfl rfl (j_iload rfl rfl (j_v1 [.ref v0, .int v4] [.long x10, .int v3, .ref v2] rfl rfl rfl rfl rfl rfl hw11 (Or.inr ⟨rfl, rfl⟩) (t_St_charAt (by omega) hσ12) (j_s1 [.long x10, .int x13] [.int v3, .ref v2] rfl rfl rfl rfl rfl (t_Ta_longer (by omega) hσ14) (j_las rfl hσ16 (j_iinc [some (.ref v0), some (.int v1), some (.ref v2), some (.int v3), some (.int (v4 + (1 : Int32)))] (v4 + (1 : Int32)) rfl rfl (by rw [k32_1]) (Or.inr rfl) rfl (j_goto rfl (g)))))))))))))) (l_Ta_codesOf_L45 hd v0 v1 v2 hX n v3 (v4 + (1 : Int32)) σ16)
      exact J_some (fun h => j_icmp_t rfl (cc_ge_t h5) (j_weak (l := [none, none, some (.ref v2), none, none]) (And.intro (Or.inl rfl) (And.intro (Or.inl rfl) (And.intro (Or.inr rfl) (And.intro (Or.inl rfl) (And.intro (Or.inl rfl) True.intro))))) (hX _ _ h)))
    exact J_some (fun h => j_icmp_t rfl (cc_ge_t h4) (j_weak (l := [none, none, some (.ref v2), none, none]) (And.intro (Or.inl rfl) (And.intro (Or.inl rfl) (And.intro (Or.inr rfl) (And.intro (Or.inl rfl) (And.intro (Or.inl rfl) True.intro))))) (hX _ _ h)))

set_option maxRecDepth 100000 in
theorem b_Ta_codesOf {fo : Option Nat} {d : Nat} (hd : 5 ≤ d + 1) {o : q_O} {σ' : q_H} (v0 : Nat) (σ : q_H) : q_J (fun (r : Nat) (σ1 : q_H) => o = .inl (some (.ref r)) ∧ σ' = σ1) (f_Ta_codesOf v0 σ) (q_G (q_rf fo) d m_Ta_codesOf o σ' 0 [some (.ref v0), none, none, none, none] [] σ) := by
  unfold f_Ta_codesOf
  refine J_sq (fun (t1 : Int32) (σ2 : q_H) => q_G (q_rf fo) d m_Ta_codesOf o σ' 36 [some (.ref v0), some (.int t1), none, none, none] [] σ2) (q_J.step (fun g => j_iconst (1 : Int32) rfl k32_1 (j_istore_n [some (.ref v0), some (.int (1 : Int32)), none, none, none] rfl rfl (Or.inr rfl) rfl (j_iconst (0 : Int32) rfl k32_0 (j_istore_n [some (.ref v0), some (.int (1 : Int32)), some (.int (0 : Int32)), none, none] rfl rfl (Or.inr rfl) rfl (g))))) (l_Ta_codesOf_L4 hd v0 (fun _ _ h => h) q_FU (1 : Int32) (0 : Int32) σ)) (fun t1 σ2 => ?_)
  refine q_J.step (fun g => j_iload_n rfl rfl (g)) ?_
  refine J_ite (fun _ => J_none) (fun h5 => ?_)
  refine J_ma fun σ3 a4 hσ3 ha4 => ?_
  refine J_sq (fun (t6 : Unit) (σ7 : q_H) => q_G (q_rf fo) d m_Ta_codesOf o σ' 97 [none, none, some (.ref a4), none, none] [] σ7) (q_J.step (fun g => j_newk t1.toNatClampNeg (.long 0) rfl rfl rfl (Decidable.not_not.mp h5) rfl hσ3 ha4 (j_astore_n [some (.ref v0), some (.int t1), some (.ref a4), none, none] rfl rfl (Or.inr rfl) rfl (j_iconst (0 : Int32) rfl k32_0 (j_istore_n [some (.ref v0), some (.int t1), some (.ref a4), some (.int (0 : Int32)), none] rfl rfl (Or.inr rfl) rfl (j_iconst (0 : Int32) rfl k32_0 (j_istore [some (.ref v0), some (.int t1), some (.ref a4), some (.int (0 : Int32)), some (.int (0 : Int32))] rfl rfl (Or.inr rfl) rfl (g))))))) (l_Ta_codesOf_L45 hd v0 t1 a4 (fun _ _ h => h) q_FU (0 : Int32) (0 : Int32) σ3)) (fun t6 σ7 => ?_)
  exact J_some (fun h => j_aload_n rfl rfl (j_aret (x := some a4) rfl (Or.inr ⟨_, rfl⟩) h))
theorem t_Ta_codesOf {fo : Option Nat} {d : Nat} (hd : 5 ≤ d) {v0 : Nat} {σ σ1 : q_H} {r : Nat} (h : f_Ta_codesOf v0 σ = some (r, σ1)) : q_Rel (q_rf fo) q_Ms d 13 [.ref v0] σ (.inl (some (.ref r))) σ1 := by
  obtain ⟨d, rfl⟩ : ∃ d1, d = d1 + 1 := ⟨d - 1, by omega⟩
  exact q_Rel.of rfl rfl (b_Ta_codesOf hd _ σ _ _ h ⟨rfl, rfl⟩)

set_option maxRecDepth 100000 in
theorem l_Ta_advance_L0 {fo : Option Nat} {d : Nat} (hd : 5 ≤ d + 1) {o : q_O} {σ' : q_H} {E : (Unit) → q_H → Prop} (v0 : Nat) (hX : ∀ (t : Unit) σ1, E (t) σ1 → q_G (q_rf fo) d m_Ta_advance o σ' 52 [some (.ref v0)] [] σ1)  : ∀ (n : Nat) (σ : q_H), q_J E (f_Ta_advance_L0 v0 n σ) (q_G (q_rf fo) d m_Ta_advance o σ' 0 [some (.ref v0)] [] σ)
  | 0, σ => J_none
  | n + 1, σ => by
    unfold f_Ta_advance_L0
    refine J_bind fun x1 hx1 => ?_
    refine J_bind fun x2 hx2 => ?_
    refine q_J.step (fun g => j_aload_n rfl rfl (j_gfi rfl hx1 (j_aload_n rfl rfl (j_gfi rfl hx2 (g))))) ?_
    refine J_ite (fun h3 => ?_) (fun h3 => ?_)
    · refine J_bind fun x4 hx4 => ?_
      refine J_bind fun x5 hx5 => ?_
      refine J_bind fun x6 hx6 => ?_
      refine q_J.step (fun g => j_icmp_f rfl (cc_ge_f h3) (j_aload_n rfl rfl (j_gfr rfl hx4 (j_aload_n rfl rfl (j_gfi rfl hx5 (j_cal rfl hx6 (j_bipush (10 : Int32) rfl kb_10 (g)))))))) ?_
      refine J_ite (fun h7 => ?_) (fun h7 => ?_)
      · refine J_bind fun x8 hx8 => ?_
        refine J_bind fun σ9 hσ9 => ?_
        exact q_J.step (fun g => j_icmp_t rfl (cc_eq_t h7) (j_aload_n rfl rfl (j_dup rfl rfl (j_gfi rfl hx8 (j_iconst (1 : Int32) rfl k32_1 (j_iadd rfl (j_putf rfl rfl rfl rfl hσ9 (j_goto rfl (g))))))))) (l_Ta_advance_L0 hd v0 hX n σ9)
      refine J_bind fun x10 hx10 => ?_
      refine J_bind fun x11 hx11 => ?_
      refine J_bind fun x12 hx12 => ?_
      refine q_J.step (fun g => j_icmp_f rfl (cc_eq_f h7) (j_aload_n rfl rfl (j_gfr rfl hx10 (j_aload_n rfl rfl (j_gfi rfl hx11 (j_cal rfl hx12 (j_bipush (32 : Int32) rfl kb_32 (g)))))))) ?_
      refine J_ite (fun h13 => ?_) (fun h13 => ?_)
      · refine J_bind fun x14 hx14 => ?_
        refine J_bind fun σ15 hσ15 => ?_
        exact q_J.step (fun g => j_icmp_f rfl (cc_ne_f h13) (j_aload_n rfl rfl (j_dup rfl rfl (j_gfi rfl hx14 (j_iconst (1 : Int32) rfl k32_1 (j_iadd rfl (j_putf rfl rfl rfl rfl hσ15 (j_goto rfl (g))))))))) (l_Ta_advance_L0 hd v0 hX n σ15)
      exact J_some (fun h => j_icmp_t rfl (cc_ne_t h13) (hX _ _ h))
    exact J_some (fun h => j_icmp_t rfl (cc_ge_t h3) (hX _ _ h))

set_option maxRecDepth 100000 in
theorem b_Ta_advance {fo : Option Nat} {d : Nat} (hd : 5 ≤ d + 1) {o : q_O} {σ' : q_H} (v0 : Nat) (σ : q_H) : q_J (fun (r : Unit) (σ1 : q_H) => o = .inl none ∧ σ' = σ1) (f_Ta_advance v0 σ) (q_G (q_rf fo) d m_Ta_advance o σ' 0 [some (.ref v0)] [] σ) := by
  unfold f_Ta_advance
  refine J_sq (fun (t1 : Unit) (σ2 : q_H) => q_G (q_rf fo) d m_Ta_advance o σ' 52 [some (.ref v0)] [] σ2) (l_Ta_advance_L0 hd v0 (fun _ _ h => h) q_FU σ) (fun t1 σ2 => ?_)
  refine J_bind fun x3 hx3 => ?_
  refine J_bind fun σ4 hσ4 => ?_
  refine J_bind fun σ5 hσ5 => ?_
  refine J_bind fun x6 hx6 => ?_
  refine J_bind fun x7 hx7 => ?_
  refine q_J.step (fun g => j_aload_n rfl rfl (j_aload_n rfl rfl (j_gfi rfl hx3 (j_putf rfl rfl rfl rfl hσ4 (j_aload_n rfl rfl (j_lconst (0 : Int64) rfl kl_0 (j_putf rfl rfl rfl rfl hσ5 (j_aload_n rfl rfl (j_gfi rfl hx6 (j_aload_n rfl rfl (j_gfi rfl hx7 (g)))))))))))) ?_
  refine J_ite (fun h8 => ?_) (fun h8 => ?_)
  · refine J_bind fun x9 hx9 => ?_
    refine J_bind fun x10 hx10 => ?_
    refine J_bind fun x11 hx11 => ?_
    refine J_cl fun x13 σ12 hσ12 => ?_
    refine q_J.step (fun g => j_icmp_t rfl (cc_lt_t h8) (j_bipush (97 : Int32) rfl kb_97 (j_aload_n rfl rfl (j_gfr rfl hx9 (j_aload_n rfl rfl (j_gfi rfl hx10 (j_cal rfl hx11 (j_bipush (122 : Int32) rfl kb_122 (j_s1 [.int (97 : Int32), .int x11, .int (122 : Int32)] [] rfl rfl rfl rfl rfl (t_Rs_isFrom (by omega) hσ12) (g)))))))))) ?_
    refine J_ite (fun h14 => ?_) (fun h14 => ?_)
    · refine J_bind fun x15 hx15 => ?_
      refine J_bind fun x16 hx16 => ?_
      refine J_bind fun x17 hx17 => ?_
      refine J_cl fun x19 σ18 hσ18 => ?_
      refine q_J.step (fun g => j_if_t rfl (cc_eq_t h14) (j_bipush (48 : Int32) rfl kb_48 (j_aload_n rfl rfl (j_gfr rfl hx15 (j_aload_n rfl rfl (j_gfi rfl hx16 (j_cal rfl hx17 (j_bipush (57 : Int32) rfl kb_57 (j_s1 [.int (48 : Int32), .int x17, .int (57 : Int32)] [] rfl rfl rfl rfl rfl (t_Rs_isFrom (by omega) hσ18) (g)))))))))) ?_
      refine J_ite (fun h20 => ?_) (fun h20 => ?_)
      · refine J_bind fun x21 hx21 => ?_
        refine J_bind fun x22 hx22 => ?_
        refine J_bind fun x23 hx23 => ?_
        refine J_bind fun σ24 hσ24 => ?_
        refine J_bind fun x25 hx25 => ?_
        refine J_bind fun x26 hx26 => ?_
        refine J_bind fun x27 hx27 => ?_
        refine J_bind fun w28 hw28 => ?_
        refine J_cl fun x30 σ29 hσ29 => ?_
        refine q_J.step (fun g => j_if_t rfl (cc_eq_t h20) (j_aload_n rfl rfl (j_aload_n rfl rfl (j_gfr rfl hx21 (j_aload_n rfl rfl (j_gfi rfl hx22 (j_cal rfl hx23 (j_i2l rfl (j_putf rfl rfl rfl rfl hσ24 (j_aload_n rfl rfl (j_ldc rfl (j_aload_n rfl rfl (j_gfr rfl hx25 (j_aload_n rfl rfl (g))))))))))))))) ?_
        refine q_J.step (fun g => j_gfi rfl hx26 (j_cal rfl hx27 (j_v1 [.ref 4, .int x27] [.ref v0] rfl rfl rfl rfl rfl rfl hw28 (Or.inr ⟨rfl, rfl⟩) (t_St_indexOf1 (by omega) hσ29) (g)))) ?_
        refine J_ite (fun h31 => ?_) (fun h31 => ?_)
        · refine J_bind fun σ32 hσ32 => ?_
          refine J_bind fun x33 hx33 => ?_
          refine J_bind fun σ34 hσ34 => ?_
          exact J_some (fun h => j_if_t rfl (cc_lt_t h31) (j_iconst (4 : Int32) rfl k32_4 (j_putf rfl rfl rfl rfl hσ32 (j_aload_n rfl rfl (j_dup rfl rfl (j_gfi rfl hx33 (j_iconst (1 : Int32) rfl k32_1 (j_iadd rfl (j_putf rfl rfl rfl rfl hσ34 (j_vret rfl rfl h))))))))))
        refine J_bind fun σ35 hσ35 => ?_
        refine J_bind fun x36 hx36 => ?_
        refine J_bind fun σ37 hσ37 => ?_
        exact J_some (fun h => j_if_f rfl (cc_lt_f h31) (j_iconst (3 : Int32) rfl k32_3 (j_goto rfl (j_putf rfl rfl rfl rfl hσ35 (j_aload_n rfl rfl (j_dup rfl rfl (j_gfi rfl hx36 (j_iconst (1 : Int32) rfl k32_1 (j_iadd rfl (j_putf rfl rfl rfl rfl hσ37 (j_vret rfl rfl h)))))))))))
      refine J_bind fun w38 hw38 => ?_
      refine J_cl fun _ σ39 hσ39 => ?_
      exact J_some (fun h => j_if_f rfl (cc_eq_f h20) (j_aload_n rfl rfl (j_v0 [.ref v0] [] rfl rfl rfl rfl rfl rfl hw38 (Or.inl rfl) (t_Ta_takeNumber (by omega) hσ39) (j_goto rfl (j_vret rfl rfl h)))))
    refine J_bind fun w41 hw41 => ?_
    refine J_cl fun _ σ42 hσ42 => ?_
    exact J_some (fun h => j_if_f rfl (cc_eq_f h14) (j_aload_n rfl rfl (j_v0 [.ref v0] [] rfl rfl rfl rfl rfl rfl hw41 (Or.inl rfl) (t_Ta_takeWord (by omega) hσ42) (j_goto rfl (j_vret rfl rfl h)))))
  refine J_bind fun σ44 hσ44 => ?_
  exact J_some (fun h => j_icmp_f rfl (cc_lt_f h8) (j_aload_n rfl rfl (j_iconst (0 : Int32) rfl k32_0 (j_putf rfl rfl rfl rfl hσ44 (j_goto rfl (j_vret rfl rfl h))))))
theorem t_Ta_advance {fo : Option Nat} {d : Nat} (hd : 5 ≤ d) {v0 : Nat} {σ σ1 : q_H} {r : Unit} (h : f_Ta_advance v0 σ = some (r, σ1)) : q_Rel (q_rf fo) q_Ms d 17 [.ref v0] σ (.inl none) σ1 := by
  obtain ⟨d, rfl⟩ : ∃ d1, d = d1 + 1 := ⟨d - 1, by omega⟩
  exact q_Rel.of rfl rfl (b_Ta_advance hd _ σ _ _ h ⟨rfl, rfl⟩)

set_option maxRecDepth 100000 in
theorem l_Ho_refresh_L15 {fo : Option Nat} {d : Nat} (hd : 5 ≤ d + 1) {o : q_O} {σ' : q_H} {E : (Unit) → q_H → Prop} (v0 : Nat) (v1 : Nat) (hX : ∀ (t : Unit) σ1, E (t) σ1 → q_G (q_rf fo) d m_Ho_refresh o σ' 33 [some (.ref v0), some (.ref v1), none, none] [] σ1)  : ∀ (n : Nat) (v2 : Int32) (σ : q_H), q_J E (f_Ho_refresh_L15 v0 v1 n v2 σ) (q_G (q_rf fo) d m_Ho_refresh o σ' 15 [some (.ref v0), some (.ref v1), some (.int v2), none] [] σ)
  | 0, v2, σ => J_none
  | n + 1, v2, σ => by
    unfold f_Ho_refresh_L15
    refine q_J.step (fun g => j_iload_n rfl rfl (j_bipush (24 : Int32) rfl kb_24 (g))) ?_
    refine J_ite (fun h1 => ?_) (fun h1 => ?_)
    · refine J_bind fun w2 hw2 => ?_
      refine J_cl fun _ σ3 hσ3 => ?_
      exact q_J.step (fun g => j_icmp_f rfl (cc_ge_f h1) (j_aload_n rfl rfl (j_aload_n rfl rfl (j_iload_n rfl rfl (j_v0 [.ref v0, .ref v1, .int v2] [] rfl rfl rfl rfl rfl rfl hw2 (Or.inl rfl) (t_Ho_begin (by omega) hσ3) (j_iinc [some (.ref v0), some (.ref v1), some (.int (v2 + (1 : Int32))), none] (v2 + (1 : Int32)) rfl rfl (by rw [k32_1]) (Or.inr rfl) rfl (j_goto rfl (g)))))))) (l_Ho_refresh_L15 hd v0 v1 hX n (v2 + (1 : Int32)) σ3)
    exact J_some (fun h => j_icmp_t rfl (cc_ge_t h1) (j_weak (l := [some (.ref v0), some (.ref v1), none, none]) (And.intro (Or.inr rfl) (And.intro (Or.inr rfl) (And.intro (Or.inl rfl) (And.intro (Or.inr rfl) True.intro)))) (hX _ _ h)))

set_option maxRecDepth 100000 in
theorem l_Ho_refresh_L45 {fo : Option Nat} {d : Nat} (hd : 5 ≤ d + 1) {o : q_O} {σ' : q_H} {E : (Unit) → q_H → Prop} (v0 : Nat) (v1 : Nat) (v2 : Int32) (hX : ∀ (t : Unit) σ1, E (t) σ1 → q_G (q_rf fo) d m_Ho_refresh o σ' 74 [some (.ref v0), some (.ref v1), some (.int v2), none] [] σ1)  : ∀ (n : Nat) (v3 : Int32) (σ : q_H), q_J E (f_Ho_refresh_L45 v0 v1 v2 n v3 σ) (q_G (q_rf fo) d m_Ho_refresh o σ' 45 [some (.ref v0), some (.ref v1), some (.int v2), some (.int v3)] [] σ)
  | 0, v3, σ => J_none
  | n + 1, v3, σ => by
    unfold f_Ho_refresh_L45
    refine q_J.step (fun g => j_iload_n rfl rfl (j_bipush (24 : Int32) rfl kb_24 (g))) ?_
    refine J_ite (fun h1 => ?_) (fun h1 => ?_)
    · refine J_bind fun w2 hw2 => ?_
      refine J_cl fun x4 σ3 hσ3 => ?_
      refine q_J.step (fun g => j_icmp_f rfl (cc_ge_f h1) (j_aload_n rfl rfl (j_aload_n rfl rfl (j_iload_n rfl rfl (j_iload_n rfl rfl (j_v1 [.ref v0, .ref v1, .int v2, .int v3] [] rfl rfl rfl rfl rfl rfl hw2 (Or.inl rfl) (t_Ho_join (by omega) hσ3) (j_iconst (2 : Int32) rfl k32_2 (g)))))))) ?_
      refine J_ite (fun h5 => ?_) (fun h5 => ?_)
      · exact q_J.step (fun g => j_icmp_t rfl (cc_lt_t h5) (j_iinc [some (.ref v0), some (.ref v1), some (.int v2), some (.int (v3 + (1 : Int32)))] (v3 + (1 : Int32)) rfl rfl (by rw [k32_1]) (Or.inr rfl) rfl (j_goto rfl (g)))) (l_Ho_refresh_L45 hd v0 v1 v2 hX n (v3 + (1 : Int32)) σ3)
      refine J_bind fun w6 hw6 => ?_
      refine J_cl fun _ σ7 hσ7 => ?_
      exact q_J.step (fun g => j_icmp_f rfl (cc_lt_f h5) (j_aload_n rfl rfl (j_iload_n rfl rfl (j_iload_n rfl rfl (j_v0 [.ref v0, .int v2, .int v3] [] rfl rfl rfl rfl rfl rfl hw6 (Or.inl rfl) (t_Ho_unite (by omega) hσ7) (j_iinc [some (.ref v0), some (.ref v1), some (.int v2), some (.int (v3 + (1 : Int32)))] (v3 + (1 : Int32)) rfl rfl (by rw [k32_1]) (Or.inr rfl) rfl (j_goto rfl (g)))))))) (l_Ho_refresh_L45 hd v0 v1 v2 hX n (v3 + (1 : Int32)) σ7)
    exact J_some (fun h => j_icmp_t rfl (cc_ge_t h1) (j_weak (l := [some (.ref v0), some (.ref v1), some (.int v2), none]) (And.intro (Or.inr rfl) (And.intro (Or.inr rfl) (And.intro (Or.inr rfl) (And.intro (Or.inl rfl) True.intro)))) (hX _ _ h)))

set_option maxRecDepth 100000 in
theorem l_Ho_refresh_L35 {fo : Option Nat} {d : Nat} (hd : 5 ≤ d + 1) {o : q_O} {σ' : q_H} {E : (Unit) → q_H → Prop} (v0 : Nat) (v1 : Nat) (hX : ∀ (t : Unit) σ1, E (t) σ1 → q_G (q_rf fo) d m_Ho_refresh o σ' 80 [some (.ref v0), some (.ref v1), none, none] [] σ1)  : ∀ (n : Nat) (v2 : Int32) (σ : q_H), q_J E (f_Ho_refresh_L35 v0 v1 n v2 σ) (q_G (q_rf fo) d m_Ho_refresh o σ' 35 [some (.ref v0), some (.ref v1), some (.int v2), none] [] σ)
  | 0, v2, σ => J_none
  | n + 1, v2, σ => by
    unfold f_Ho_refresh_L35
    refine q_J.step (fun g => j_iload_n rfl rfl (j_bipush (24 : Int32) rfl kb_24 (g))) ?_
    refine J_ite (fun h1 => ?_) (fun h1 => ?_)
    · refine J_sq (fun (t2 : Unit) (σ3 : q_H) => q_G (q_rf fo) d m_Ho_refresh o σ' 74 [some (.ref v0), some (.ref v1), some (.int v2), none] [] σ3) (q_J.step (fun g => j_icmp_f rfl (cc_ge_f h1) (j_iload_n rfl rfl (j_iconst (1 : Int32) rfl k32_1 (j_iadd rfl (j_istore_n [some (.ref v0), some (.ref v1), some (.int v2), some (.int (v2 + (1 : Int32)))] rfl rfl (Or.inr rfl) rfl (g)))))) (l_Ho_refresh_L45 hd v0 v1 v2 (fun _ _ h => h) q_FU (v2 + (1 : Int32)) σ)) (fun t2 σ3 => ?_)
      exact q_J.step (fun g => j_iinc [some (.ref v0), some (.ref v1), some (.int (v2 + (1 : Int32))), none] (v2 + (1 : Int32)) rfl rfl (by rw [k32_1]) (Or.inr rfl) rfl (j_goto rfl (g))) (l_Ho_refresh_L35 hd v0 v1 hX n (v2 + (1 : Int32)) σ3)
    exact J_some (fun h => j_icmp_t rfl (cc_ge_t h1) (j_weak (l := [some (.ref v0), some (.ref v1), none, none]) (And.intro (Or.inr rfl) (And.intro (Or.inr rfl) (And.intro (Or.inl rfl) (And.intro (Or.inr rfl) True.intro)))) (hX _ _ h)))

set_option maxRecDepth 100000 in
theorem l_Ho_refresh_L90 {fo : Option Nat} {d : Nat} (hd : 5 ≤ d + 1) {o : q_O} {σ' : q_H} {E : (Unit) → q_H → Prop} (v0 : Nat) (v1 : Nat) (v2 : Int32) (hX : ∀ (t : Unit) σ1, E (t) σ1 → q_G (q_rf fo) d m_Ho_refresh o σ' 139 [some (.ref v0), some (.ref v1), some (.int v2), none] [] σ1)  : ∀ (n : Nat) (v3 : Int32) (σ : q_H), q_J E (f_Ho_refresh_L90 v0 v1 v2 n v3 σ) (q_G (q_rf fo) d m_Ho_refresh o σ' 90 [some (.ref v0), some (.ref v1), some (.int v2), some (.int v3)] [] σ)
  | 0, v3, σ => J_none
  | n + 1, v3, σ => by
    unfold f_Ho_refresh_L90
    refine q_J.step (fun g => j_iload_n rfl rfl (j_bipush (24 : Int32) rfl kb_24 (g))) ?_
    refine J_ite (fun h1 => ?_) (fun h1 => ?_)
    · refine J_bind fun x2 hx2 => ?_
      refine J_bind fun x3 hx3 => ?_
      refine J_bind fun x4 hx4 => ?_
      refine J_bind fun x5 hx5 => ?_
      refine q_J.step (fun g => j_icmp_f rfl (cc_ge_f h1) (j_aload_n rfl rfl (j_gfr rfl hx2 (j_iload_n rfl rfl (j_ial rfl hx3 (j_aload_n rfl rfl (j_gfr rfl hx4 (j_iload_n rfl rfl (j_ial rfl hx5 (g)))))))))) ?_
      refine J_ite (fun h6 => ?_) (fun h6 => ?_)
      · refine J_bind fun x7 hx7 => ?_
        refine J_bind fun x8 hx8 => ?_
        refine J_bind fun x9 hx9 => ?_
        refine J_bind fun x10 hx10 => ?_
        refine q_J.step (fun g => j_icmp_f rfl (cc_ne_f h6) (j_aload_n rfl rfl (j_gfr rfl hx7 (j_iload_n rfl rfl (j_ial rfl hx8 (j_aload_n rfl rfl (j_gfr rfl hx9 (j_iload_n rfl rfl (j_ial rfl hx10 (g)))))))))) ?_
        refine J_ite (fun h11 => ?_) (fun h11 => ?_)
        · refine J_bind fun w12 hw12 => ?_
          refine J_cl fun _ σ13 hσ13 => ?_
          exact q_J.step (fun g => j_icmp_f rfl (cc_le_f h11) (j_aload_n rfl rfl (j_aload_n rfl rfl (j_iload_n rfl rfl (j_iload_n rfl rfl (j_v0 [.ref v0, .ref v1, .int v2, .int v3] [] rfl rfl rfl rfl rfl rfl hw12 (Or.inl rfl) (t_Ho_seekLeftOut (by omega) hσ13) (j_iinc [some (.ref v0), some (.ref v1), some (.int v2), some (.int (v3 + (1 : Int32)))] (v3 + (1 : Int32)) rfl rfl (by rw [k32_1]) (Or.inr rfl) rfl (j_goto rfl (g))))))))) (l_Ho_refresh_L90 hd v0 v1 v2 hX n (v3 + (1 : Int32)) σ13)
        exact q_J.step (fun g => j_icmp_t rfl (cc_le_t h11) (j_iinc [some (.ref v0), some (.ref v1), some (.int v2), some (.int (v3 + (1 : Int32)))] (v3 + (1 : Int32)) rfl rfl (by rw [k32_1]) (Or.inr rfl) rfl (j_goto rfl (g)))) (l_Ho_refresh_L90 hd v0 v1 v2 hX n (v3 + (1 : Int32)) σ)
      exact q_J.step (fun g => j_icmp_t rfl (cc_ne_t h6) (j_iinc [some (.ref v0), some (.ref v1), some (.int v2), some (.int (v3 + (1 : Int32)))] (v3 + (1 : Int32)) rfl rfl (by rw [k32_1]) (Or.inr rfl) rfl (j_goto rfl (g)))) (l_Ho_refresh_L90 hd v0 v1 v2 hX n (v3 + (1 : Int32)) σ)
    exact J_some (fun h => j_icmp_t rfl (cc_ge_t h1) (j_weak (l := [some (.ref v0), some (.ref v1), some (.int v2), none]) (And.intro (Or.inr rfl) (And.intro (Or.inr rfl) (And.intro (Or.inr rfl) (And.intro (Or.inl rfl) True.intro)))) (hX _ _ h)))

set_option maxRecDepth 100000 in
theorem l_Ho_refresh_L82 {fo : Option Nat} {d : Nat} (hd : 5 ≤ d + 1) {o : q_O} {σ' : q_H} {E : (Unit) → q_H → Prop} (v0 : Nat) (v1 : Nat) (hX : ∀ (t : Unit) σ1, E (t) σ1 → q_G (q_rf fo) d m_Ho_refresh o σ' 145 [none, none, none, none] [] σ1)  : ∀ (n : Nat) (v2 : Int32) (σ : q_H), q_J E (f_Ho_refresh_L82 v0 v1 n v2 σ) (q_G (q_rf fo) d m_Ho_refresh o σ' 82 [some (.ref v0), some (.ref v1), some (.int v2), none] [] σ)
  | 0, v2, σ => J_none
  | n + 1, v2, σ => by
    unfold f_Ho_refresh_L82
    refine q_J.step (fun g => j_iload_n rfl rfl (j_bipush (24 : Int32) rfl kb_24 (g))) ?_
    refine J_ite (fun h1 => ?_) (fun h1 => ?_)
    · refine J_sq (fun (t2 : Unit) (σ3 : q_H) => q_G (q_rf fo) d m_Ho_refresh o σ' 139 [some (.ref v0), some (.ref v1), some (.int v2), none] [] σ3) (q_J.step (fun g => j_icmp_f rfl (cc_ge_f h1) (j_iconst (0 : Int32) rfl k32_0 (j_istore_n [some (.ref v0), some (.ref v1), some (.int v2), some (.int (0 : Int32))] rfl rfl (Or.inr rfl) rfl (g)))) (l_Ho_refresh_L90 hd v0 v1 v2 (fun _ _ h => h) q_FU (0 : Int32) σ)) (fun t2 σ3 => ?_)
      exact q_J.step (fun g => j_iinc [some (.ref v0), some (.ref v1), some (.int (v2 + (1 : Int32))), none] (v2 + (1 : Int32)) rfl rfl (by rw [k32_1]) (Or.inr rfl) rfl (j_goto rfl (g))) (l_Ho_refresh_L82 hd v0 v1 hX n (v2 + (1 : Int32)) σ3)
    exact J_some (fun h => j_icmp_t rfl (cc_ge_t h1) (j_weak (l := [none, none, none, none]) (And.intro (Or.inl rfl) (And.intro (Or.inl rfl) (And.intro (Or.inl rfl) (And.intro (Or.inr rfl) True.intro)))) (hX _ _ h)))

set_option maxRecDepth 100000 in
theorem b_Ho_refresh {fo : Option Nat} {d : Nat} (hd : 5 ≤ d + 1) {o : q_O} {σ' : q_H} (v0 : Nat) (v1 : Nat) (σ : q_H) : q_J (fun (r : Unit) (σ1 : q_H) => o = .inl none ∧ σ' = σ1) (f_Ho_refresh v0 v1 σ) (q_G (q_rf fo) d m_Ho_refresh o σ' 0 [some (.ref v0), some (.ref v1), none, none] [] σ) := by
  unfold f_Ho_refresh
  refine J_bind fun x1 hx1 => ?_
  refine q_J.step (fun g => j_aload_n rfl rfl (j_gfi rfl hx1 (g))) ?_
  refine J_ite (fun h2 => ?_) (fun h2 => ?_)
  · exact J_some (fun h => j_if_f rfl (cc_ne_f h2) (j_vret rfl rfl h))
  refine J_bind fun σ3 hσ3 => ?_
  refine J_sq (fun (t4 : Unit) (σ5 : q_H) => q_G (q_rf fo) d m_Ho_refresh o σ' 33 [some (.ref v0), some (.ref v1), none, none] [] σ5) (q_J.step (fun g => j_if_t rfl (cc_ne_t h2) (j_aload_n rfl rfl (j_iconst (0 : Int32) rfl k32_0 (j_putf rfl rfl (by decide) rfl hσ3 (j_iconst (0 : Int32) rfl k32_0 (j_istore_n [some (.ref v0), some (.ref v1), some (.int (0 : Int32)), none] rfl rfl (Or.inr rfl) rfl (g))))))) (l_Ho_refresh_L15 hd v0 v1 (fun _ _ h => h) q_FU (0 : Int32) σ3)) (fun t4 σ5 => ?_)
  refine J_sq (fun (t6 : Unit) (σ7 : q_H) => q_G (q_rf fo) d m_Ho_refresh o σ' 80 [some (.ref v0), some (.ref v1), none, none] [] σ7) (q_J.step (fun g => j_iconst (0 : Int32) rfl k32_0 (j_istore_n [some (.ref v0), some (.ref v1), some (.int (0 : Int32)), none] rfl rfl (Or.inr rfl) rfl (g))) (l_Ho_refresh_L35 hd v0 v1 (fun _ _ h => h) q_FU (0 : Int32) σ5)) (fun t6 σ7 => ?_)
  refine J_sq (fun (t8 : Unit) (σ9 : q_H) => q_G (q_rf fo) d m_Ho_refresh o σ' 145 [none, none, none, none] [] σ9) (q_J.step (fun g => j_iconst (0 : Int32) rfl k32_0 (j_istore_n [some (.ref v0), some (.ref v1), some (.int (0 : Int32)), none] rfl rfl (Or.inr rfl) rfl (g))) (l_Ho_refresh_L82 hd v0 v1 (fun _ _ h => h) q_FU (0 : Int32) σ7)) (fun t8 σ9 => ?_)
  exact J_some (fun h => j_vret rfl rfl h)
theorem t_Ho_refresh {fo : Option Nat} {d : Nat} (hd : 5 ≤ d) {v0 : Nat} {v1 : Nat} {σ σ1 : q_H} {r : Unit} (h : f_Ho_refresh v0 v1 σ = some (r, σ1)) : q_Rel (q_rf fo) q_Ms d 97 [.ref v0, .ref v1] σ (.inl none) σ1 := by
  obtain ⟨d, rfl⟩ : ∃ d1, d = d1 + 1 := ⟨d - 1, by omega⟩
  exact q_Rel.of rfl rfl (b_Ho_refresh hd _ _ σ _ _ h ⟨rfl, rfl⟩)

set_option maxRecDepth 100000 in
theorem b_Rs_marriages {fo : Option Nat} {d : Nat} (hd : 5 ≤ d + 1) {o : q_O} {σ' : q_H} (v0 : Nat) (v1 : Int32) (v2 : Int32) (v3 : Int32) (σ : q_H) : q_J (fun (r : Int32) (σ1 : q_H) => o = .inl (some (.int r)) ∧ σ' = σ1) (f_Rs_marriages v0 v1 v2 v3 σ) (q_G (q_rf fo) d m_Rs_marriages o σ' 0 [some (.ref v0), some (.int v1), some (.int v2), some (.int v3), none] [] σ) := by
  unfold f_Rs_marriages
  refine J_cl fun x2 σ1 hσ1 => ?_
  refine q_J.step (fun g => j_iload_n rfl rfl (j_iload_n rfl rfl (j_s1 [.int v1, .int v2] [] rfl rfl rfl rfl rfl (t_Rs_isScope (by omega) hσ1) (g)))) ?_
  refine J_ite (fun h3 => ?_) (fun h3 => ?_)
  · exact J_some (fun h => j_if_t rfl (cc_eq_t h3) (j_iconst (-1 : Int32) rfl k32_m1 (j_iret rfl rfl h)))
  refine J_cl fun x5 σ4 hσ4 => ?_
  refine q_J.step (fun g => j_if_f rfl (cc_eq_f h3) (j_iconst (-1 : Int32) rfl k32_m1 (j_iload_n rfl rfl (j_iconst (4 : Int32) rfl k32_4 (j_s1 [.int (-1 : Int32), .int v3, .int (4 : Int32)] [] rfl rfl rfl rfl rfl (t_Rs_isFrom (by omega) hσ4) (g)))))) ?_
  refine J_ite (fun h6 => ?_) (fun h6 => ?_)
  · exact J_some (fun h => j_if_f rfl (cc_ne_f h6) (j_iconst (-1 : Int32) rfl k32_m1 (j_iret rfl rfl h)))
  refine J_bind fun w7 hw7 => ?_
  refine J_cl fun x9 σ8 hσ8 => ?_
  refine q_J.step (fun g => j_if_t rfl (cc_ne_t h6) (j_aload_n rfl rfl (j_iload_n rfl rfl (j_iload_n rfl rfl (j_v1 [.ref v0, .int v1, .int v2] [] rfl rfl rfl rfl rfl rfl hw7 (Or.inl rfl) (t_Rs_gather (by omega) hσ8) (j_astore [some (.ref v0), some (.int v1), some (.int v2), some (.int v3), some (.ref x9)] rfl rfl (Or.inr rfl) rfl (j_iload_n rfl rfl (j_iconst (-1 : Int32) rfl k32_m1 (g))))))))) ?_
  refine J_ite (fun h10 => ?_) (fun h10 => ?_)
  · refine J_bind fun w11 hw11 => ?_
    refine J_cl fun x13 σ12 hσ12 => ?_
    exact J_some (fun h => j_icmp_f rfl (cc_ne_f h10) (j_aload rfl rfl (j_iconst (0 : Int32) rfl k32_0 (j_v1 [.ref x9, .int (0 : Int32)] [] rfl rfl rfl rfl rfl rfl hw11 (Or.inl rfl) (t_Ty_all (by omega) hσ12) (j_goto rfl (j_iret rfl rfl h))))))
  refine J_bind fun w14 hw14 => ?_
  refine J_cl fun x16 σ15 hσ15 => ?_
  exact J_some (fun h => j_icmp_t rfl (cc_ne_t h10) (j_aload rfl rfl (j_iload_n rfl rfl (j_iconst (0 : Int32) rfl k32_0 (j_v1 [.ref x9, .int v3, .int (0 : Int32)] [] rfl rfl rfl rfl rfl rfl hw14 (Or.inl rfl) (t_Ty_ofSort (by omega) hσ15) (j_iret rfl rfl h))))))
theorem t_Rs_marriages {fo : Option Nat} {d : Nat} (hd : 5 ≤ d) {v0 : Nat} {v1 : Int32} {v2 : Int32} {v3 : Int32} {σ σ1 : q_H} {r : Int32} (h : f_Rs_marriages v0 v1 v2 v3 σ = some (r, σ1)) : q_Rel (q_rf fo) q_Ms d 117 [.ref v0, .int v1, .int v2, .int v3] σ (.inl (some (.int r))) σ1 := by
  obtain ⟨d, rfl⟩ : ∃ d1, d = d1 + 1 := ⟨d - 1, by omega⟩
  exact q_Rel.of rfl rfl (b_Rs_marriages hd _ _ _ _ σ _ _ h ⟨rfl, rfl⟩)

