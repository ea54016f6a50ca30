/-! Methods of the class: walks: by program. -/
set_option maxRecDepth 100000 in
theorem l_Sr_parse_L9 {fo : Option Nat} {d : Nat} (hd : 8 ≤ d + 1) {o : q_O} {σ' : q_H} {E : (Int32 ⊕ Unit) → q_H → Prop} (v0 : Nat) (hR : ∀ r σ1, E (.inl r) σ1 → o = .inl (some (.int r)) ∧ σ' = σ1) (hX : ∀ (t : Unit) σ1, E (.inr t) σ1 → q_G (q_rf fo) d m_Sr_parse o σ' 131 [none, none, none, none] [] σ1)  : ∀ (n : Nat) (v1 : Int32) (σ : q_H), q_J E (f_Sr_parse_L9 v0 n v1 σ) (q_G (q_rf fo) d m_Sr_parse o σ' 9 [some (.ref v0), some (.int v1), none, none] [] σ)
  | 0, v1, σ => J_none
  | n + 1, v1, σ => by
    unfold f_Sr_parse_L9
    refine q_J.step (fun g => j_iload_n rfl rfl (j_bipush (12 : Int32) rfl kb_12 (g))) ?_
    refine J_ite (fun h1 => ?_) (fun h1 => ?_)
    · exact J_some (fun h => j_icmp_t rfl (cc_gt_t h1) (j_weak (l := [none, none, none, none]) (And.intro (Or.inl rfl) (And.intro (Or.inl rfl) (And.intro (Or.inr rfl) (And.intro (Or.inr rfl) True.intro)))) (hX _ _ h)))
    refine J_bind fun x2 hx2 => ?_
    refine J_bind fun w3 hw3 => ?_
    refine J_cl fun _ σ4 hσ4 => ?_
    refine J_bind fun x6 hx6 => ?_
    refine J_bind fun x7 hx7 => ?_
    refine q_J.step (fun g => j_icmp_f rfl (cc_gt_f h1) (j_aload_n rfl rfl (j_gfr rfl hx2 (j_v0 [.ref x2] [] rfl rfl rfl rfl rfl rfl hw3 (Or.inl rfl) (t_Ta_advance (by omega) hσ4) (j_aload_n rfl rfl (j_gfr rfl hx6 (j_gfi rfl hx7 (g)))))))) ?_
    refine J_ite (fun h8 => ?_) (fun h8 => ?_)
    · exact J_some (fun h => j_if_f rfl (cc_ne_f h8) (j_iconst (0 : Int32) rfl k32_0 (j_iret rfl rfl (hR _ _ h))))
    refine J_bind fun x9 hx9 => ?_
    refine J_bind fun x10 hx10 => ?_
    refine J_bind fun w11 hw11 => ?_
    refine J_cl fun x13 σ12 hσ12 => ?_
    refine q_J.step (fun g => j_if_t rfl (cc_ne_t h8) (j_aload_n rfl rfl (j_gfr rfl hx9 (j_aload_n rfl rfl (j_gfr rfl hx10 (j_v1 [.ref x9, .ref x10] [] rfl rfl rfl rfl rfl rfl hw11 (Or.inl rfl) (t_Ta_wordIn (by omega) hσ12) (j_istore_n [some (.ref v0), some (.int v1), some (.int x13), none] rfl rfl (Or.inr rfl) rfl (j_iload_n rfl rfl (j_bipush (8 : Int32) rfl kb_8 (g)))))))))) ?_
    refine J_ite (fun h14 => ?_) (fun h14 => ?_)
    · refine q_J.step (fun g => j_icmp_t rfl (cc_eq_t h14) (j_iload_n rfl rfl (j_bipush (12 : Int32) rfl kb_12 (g)))) ?_
      refine J_ite (fun h15 => ?_) (fun h15 => ?_)
      · refine J_bind fun x16 hx16 => ?_
        refine J_bind fun w17 hw17 => ?_
        refine J_cl fun x19 σ18 hσ18 => ?_
        exact J_some (fun h => j_icmp_f rfl (cc_ne_f h15) (j_aload_n rfl rfl (j_gfr rfl hx16 (j_iconst (5 : Int32) rfl k32_5 (j_v1 [.ref x16, .int (5 : Int32)] [] rfl rfl rfl rfl rfl rfl hw17 (Or.inl rfl) (t_Ta_fault (by omega) hσ18) (j_iret rfl rfl (hR _ _ h)))))))
      refine q_J.step (fun g => j_icmp_t rfl (cc_ne_t h15) (j_aload_n rfl rfl (j_iload_n rfl rfl (j_iload_n rfl rfl (j_bipush (9 : Int32) rfl kb_9 (g)))))) ?_
      refine J_sq (fun (t21 : Int32) (σ22 : q_H) => q_G (q_rf fo) d m_Sr_parse o σ' 95 [some (.ref v0), some (.int v1), none, none] [.int t21, .int v1, .ref v0] σ22) ?_ (fun t21 σ22 => ?_)
      · refine J_ite (fun h20 => ?_) (fun h20 => ?_)
        · exact J_some (fun h => j_icmp_f rfl (cc_ne_f h20) (j_iconst (1 : Int32) rfl k32_1 (j_goto rfl (j_weak (l := [some (.ref v0), some (.int v1), none, none]) (And.intro (Or.inr rfl) (And.intro (Or.inr rfl) (And.intro (Or.inl rfl) (And.intro (Or.inr rfl) True.intro)))) (h)))))
        exact J_some (fun h => j_icmp_t rfl (cc_ne_t h20) (j_iconst (0 : Int32) rfl k32_0 (j_weak (l := [some (.ref v0), some (.int v1), none, none]) (And.intro (Or.inr rfl) (And.intro (Or.inr rfl) (And.intro (Or.inl rfl) (And.intro (Or.inr rfl) True.intro)))) (h))))
      refine J_bind fun w23 hw23 => ?_
      refine J_cl fun x25 σ24 hσ24 => ?_
      refine q_J.step (fun g => j_v1 [.ref v0, .int v1, .int t21] [] rfl rfl rfl rfl rfl rfl hw23 (Or.inl rfl) (t_Sr_parseHead (by omega) hσ24) (j_istore_n [some (.ref v0), some (.int v1), none, some (.int x25)] rfl rfl (Or.inr True.intro) rfl (j_iload_n rfl rfl (g)))) ?_
      refine J_sq (fun (t30 : Int32) (σ31 : q_H) => q_G (q_rf fo) d m_Sr_parse o σ' 109 [some (.ref v0), some (.int v1), none, some (.int t30)] [] σ31) ?_ (fun t30 σ31 => ?_)
      · refine J_ite (fun h26 => ?_) (fun h26 => ?_)
        · refine J_bind fun w27 hw27 => ?_
          refine J_cl fun x29 σ28 hσ28 => ?_
          exact J_some (fun h => j_if_f rfl (cc_ne_f h26) (j_aload_n rfl rfl (j_iload_n rfl rfl (j_v1 [.ref v0, .int v1] [] rfl rfl rfl rfl rfl rfl hw27 (Or.inl rfl) (t_Sr_parseTags (by omega) hσ28) (j_istore_n [some (.ref v0), some (.int v1), none, some (.int x29)] rfl rfl (Or.inr True.intro) rfl (h))))))
        exact J_some (fun h => j_if_t rfl (cc_ne_t h26) (h))
      refine q_J.step (fun g => j_iload_n rfl rfl (g)) ?_
      refine J_ite (fun h32 => ?_) (fun h32 => ?_)
      · refine J_bind fun x33 hx33 => ?_
        refine J_bind fun σ34 hσ34 => ?_
        exact q_J.step (fun g => j_if_t rfl (cc_eq_t h32) (j_aload_n rfl rfl (j_gfr rfl hx33 (j_iload_n rfl rfl (j_iconst (1 : Int32) rfl k32_1 (j_iadd rfl (j_putf rfl rfl rfl rfl hσ34 (j_iinc [some (.ref v0), some (.int (v1 + (1 : Int32))), none, some (.int t30)] (v1 + (1 : Int32)) rfl rfl (by rw [k32_1]) (Or.inr rfl) rfl (j_goto rfl (j_weak (l := [some (.ref v0), some (.int (v1 + (1 : Int32))), none, none]) (And.intro (Or.inr rfl) (And.intro (Or.inr rfl) (And.intro (Or.inr rfl) (And.intro (Or.inl rfl) True.intro)))) (g))))))))))) (l_Sr_parse_L9 hd v0 hR hX n (v1 + (1 : Int32)) σ34)
      exact J_some (fun h => j_if_f rfl (cc_eq_f h32) (j_iload_n rfl rfl (j_iret rfl rfl (hR _ _ h))))
    refine q_J.step (fun g => j_icmp_f rfl (cc_eq_f h14) (j_iload_n rfl rfl (j_bipush (9 : Int32) rfl kb_9 (g)))) ?_
    refine J_ite (fun h35 => ?_) (fun h35 => ?_)
    · refine q_J.step (fun g => j_icmp_t rfl (cc_eq_t h35) (j_iload_n rfl rfl (j_bipush (12 : Int32) rfl kb_12 (g)))) ?_
      refine J_ite (fun h36 => ?_) (fun h36 => ?_)
      · refine J_bind fun x37 hx37 => ?_
        refine J_bind fun w38 hw38 => ?_
        refine J_cl fun x40 σ39 hσ39 => ?_
        exact J_some (fun h => j_icmp_f rfl (cc_ne_f h36) (j_aload_n rfl rfl (j_gfr rfl hx37 (j_iconst (5 : Int32) rfl k32_5 (j_v1 [.ref x37, .int (5 : Int32)] [] rfl rfl rfl rfl rfl rfl hw38 (Or.inl rfl) (t_Ta_fault (by omega) hσ39) (j_iret rfl rfl (hR _ _ h)))))))
      refine q_J.step (fun g => j_icmp_t rfl (cc_ne_t h36) (j_aload_n rfl rfl (j_iload_n rfl rfl (j_iload_n rfl rfl (j_bipush (9 : Int32) rfl kb_9 (g)))))) ?_
      refine J_sq (fun (t42 : Int32) (σ43 : q_H) => q_G (q_rf fo) d m_Sr_parse o σ' 95 [some (.ref v0), some (.int v1), none, none] [.int t42, .int v1, .ref v0] σ43) ?_ (fun t42 σ43 => ?_)
      · refine J_ite (fun h41 => ?_) (fun h41 => ?_)
        · exact J_some (fun h => j_icmp_f rfl (cc_ne_f h41) (j_iconst (1 : Int32) rfl k32_1 (j_goto rfl (j_weak (l := [some (.ref v0), some (.int v1), none, none]) (And.intro (Or.inr rfl) (And.intro (Or.inr rfl) (And.intro (Or.inl rfl) (And.intro (Or.inr rfl) True.intro)))) (h)))))
        exact J_some (fun h => j_icmp_t rfl (cc_ne_t h41) (j_iconst (0 : Int32) rfl k32_0 (j_weak (l := [some (.ref v0), some (.int v1), none, none]) (And.intro (Or.inr rfl) (And.intro (Or.inr rfl) (And.intro (Or.inl rfl) (And.intro (Or.inr rfl) True.intro)))) (h))))
      refine J_bind fun w44 hw44 => ?_
      refine J_cl fun x46 σ45 hσ45 => ?_
      refine q_J.step (fun g => j_v1 [.ref v0, .int v1, .int t42] [] rfl rfl rfl rfl rfl rfl hw44 (Or.inl rfl) (t_Sr_parseHead (by omega) hσ45) (j_istore_n [some (.ref v0), some (.int v1), none, some (.int x46)] rfl rfl (Or.inr True.intro) rfl (j_iload_n rfl rfl (g)))) ?_
      refine J_sq (fun (t51 : Int32) (σ52 : q_H) => q_G (q_rf fo) d m_Sr_parse o σ' 109 [some (.ref v0), some (.int v1), none, some (.int t51)] [] σ52) ?_ (fun t51 σ52 => ?_)
      · refine J_ite (fun h47 => ?_) (fun h47 => ?_)
        · refine J_bind fun w48 hw48 => ?_
          refine J_cl fun x50 σ49 hσ49 => ?_
          exact J_some (fun h => j_if_f rfl (cc_ne_f h47) (j_aload_n rfl rfl (j_iload_n rfl rfl (j_v1 [.ref v0, .int v1] [] rfl rfl rfl rfl rfl rfl hw48 (Or.inl rfl) (t_Sr_parseTags (by omega) hσ49) (j_istore_n [some (.ref v0), some (.int v1), none, some (.int x50)] rfl rfl (Or.inr True.intro) rfl (h))))))
        exact J_some (fun h => j_if_t rfl (cc_ne_t h47) (h))
      refine q_J.step (fun g => j_iload_n rfl rfl (g)) ?_
      refine J_ite (fun h53 => ?_) (fun h53 => ?_)
      · refine J_bind fun x54 hx54 => ?_
        refine J_bind fun σ55 hσ55 => ?_
        exact q_J.step (fun g => j_if_t rfl (cc_eq_t h53) (j_aload_n rfl rfl (j_gfr rfl hx54 (j_iload_n rfl rfl (j_iconst (1 : Int32) rfl k32_1 (j_iadd rfl (j_putf rfl rfl rfl rfl hσ55 (j_iinc [some (.ref v0), some (.int (v1 + (1 : Int32))), none, some (.int t51)] (v1 + (1 : Int32)) rfl rfl (by rw [k32_1]) (Or.inr rfl) rfl (j_goto rfl (j_weak (l := [some (.ref v0), some (.int (v1 + (1 : Int32))), none, none]) (And.intro (Or.inr rfl) (And.intro (Or.inr rfl) (And.intro (Or.inr rfl) (And.intro (Or.inl rfl) True.intro)))) (g))))))))))) (l_Sr_parse_L9 hd v0 hR hX n (v1 + (1 : Int32)) σ55)
      exact J_some (fun h => j_if_f rfl (cc_eq_f h53) (j_iload_n rfl rfl (j_iret rfl rfl (hR _ _ h))))
    refine J_bind fun x56 hx56 => ?_
    refine J_bind fun w57 hw57 => ?_
    refine J_cl fun x59 σ58 hσ58 => ?_
    exact J_some (fun h => j_icmp_f rfl (cc_eq_f h35) (j_aload_n rfl rfl (j_gfr rfl hx56 (j_iconst (1 : Int32) rfl k32_1 (j_v1 [.ref x56, .int (1 : Int32)] [] rfl rfl rfl rfl rfl rfl hw57 (Or.inl rfl) (t_Ta_fault (by omega) hσ58) (j_iret rfl rfl (hR _ _ h)))))))

set_option maxRecDepth 100000 in
theorem b_Sr_parse {fo : Option Nat} {d : Nat} (hd : 8 ≤ d + 1) {o : q_O} {σ' : q_H} (v0 : Nat) (σ : q_H) : q_J (fun (r : Int32) (σ1 : q_H) => o = .inl (some (.int r)) ∧ σ' = σ1) (f_Sr_parse v0 σ) (q_G (q_rf fo) d m_Sr_parse o σ' 0 [some (.ref v0), none, none, none] [] σ) := by
  unfold f_Sr_parse
  refine J_bind fun x1 hx1 => ?_
  refine J_bind fun w2 hw2 => ?_
  refine J_cl fun _ σ3 hσ3 => ?_
  refine J_sq (fun (t0 : Int32 ⊕ Unit) (σ6 : q_H) => match t0 with | .inl r => o = .inl (some (.int r)) ∧ σ' = σ6 | .inr t5 => q_G (q_rf fo) d m_Sr_parse o σ' 131 [none, none, none, none] [] σ6) (q_J.step (fun g => j_aload_n rfl rfl (j_gfr rfl hx1 (j_v0 [.ref x1] [] rfl rfl rfl rfl rfl rfl hw2 (Or.inl rfl) (t_Ta_start (by omega) hσ3) (j_iconst (0 : Int32) rfl k32_0 (j_istore_n [some (.ref v0), some (.int (0 : Int32)), none, none] rfl rfl (Or.inr rfl) rfl (g)))))) (l_Sr_parse_L9 hd v0 (fun _ _ h => h) (fun _ _ h => h) q_FU (0 : Int32) σ3)) (fun t0 σ6 => ?_)
  cases t0 with
  | inl r7 => exact J_some (fun h => h)
  | inr t5 =>
    exact J_some (fun h => j_iconst (0 : Int32) rfl k32_0 (j_iret rfl rfl h))
theorem t_Sr_parse {fo : Option Nat} {d : Nat} (hd : 8 ≤ d) {v0 : Nat} {σ σ1 : q_H} {r : Int32} (h : f_Sr_parse v0 σ = some (r, σ1)) : q_Rel (q_rf fo) q_Ms d 73 [.ref v0] σ (.inl (some (.int r))) σ1 := by
  obtain ⟨d, rfl⟩ : ∃ d1, d = d1 + 1 := ⟨d - 1, by omega⟩
  exact q_Rel.of rfl rfl (b_Sr_parse hd _ σ _ _ h ⟨rfl, rfl⟩)

set_option maxRecDepth 100000 in
theorem b_Rs_read {fo : Option Nat} {d : Nat} (hd : 9 ≤ d + 1) {o : q_O} {σ' : q_H} (v0 : Nat) (v1 : Int32) (σ : q_H) : q_J (fun (r : Int32) (σ1 : q_H) => o = .inl (some (.int r)) ∧ σ' = σ1) (f_Rs_read v0 v1 σ) (q_G (q_rf fo) d m_Rs_read o σ' 0 [some (.ref v0), some (.int v1), none, none] [] σ) := by
  unfold f_Rs_read
  refine J_bind fun x1 hx1 => ?_
  refine J_bind fun w2 hw2 => ?_
  refine J_cl fun x4 σ3 hσ3 => ?_
  refine q_J.step (fun g => j_aload_n rfl rfl (j_gfr rfl hx1 (j_iload_n rfl rfl (j_v1 [.ref x1, .int v1] [] rfl rfl rfl rfl rfl rfl hw2 (Or.inl rfl) (t_Sf_isTold (by omega) hσ3) (g))))) ?_
  refine J_ite (fun h5 => ?_) (fun h5 => ?_)
  · refine J_bind fun x6 hx6 => ?_
    refine J_bind fun σ7 hσ7 => ?_
    exact J_some (fun h => j_if_f rfl (cc_ne_f h5) (j_aload_n rfl rfl (j_gfr rfl hx6 (j_iconst (0 : Int32) rfl k32_0 (j_putf rfl rfl rfl rfl hσ7 (j_iconst (-1 : Int32) rfl k32_m1 (j_iret rfl rfl h)))))))
  refine J_ma fun σ8 a9 hσ8 ha9 => ?_
  refine J_bind fun x10 hx10 => ?_
  refine J_bind fun x11 hx11 => ?_
  refine J_cl fun _ σ12 hσ12 => ?_
  refine J_bind fun w14 hw14 => ?_
  refine J_cl fun x16 σ15 hσ15 => ?_
  refine J_bind fun x17 hx17 => ?_
  refine J_bind fun σ18 hσ18 => ?_
  refine q_J.step (fun g => j_if_t rfl (cc_ne_t h5) (j_newk2 [.null, .null, .null] rfl rfl rfl hσ8 ha9 (j_dup rfl rfl (j_aload_n rfl rfl (j_gfr rfl hx10 (j_aload_n rfl rfl (j_gfr rfl hx11 (j_i0 [.ref a9, .ref x10, .ref x11] [.ref a9] rfl rfl rfl rfl rfl rfl (t_Sr_init (by omega) hσ12) (j_astore_n [some (.ref v0), some (.int v1), some (.ref a9), none] rfl rfl (Or.inr rfl) rfl (j_aload_n rfl rfl (j_v1 [.ref a9] [] rfl rfl rfl rfl rfl rfl hw14 (Or.inl rfl) (t_Sr_parse (by omega) hσ15) (j_istore_n [some (.ref v0), some (.int v1), some (.ref a9), some (.int x16)] rfl rfl (Or.inr rfl) rfl (j_aload_n rfl rfl (j_gfr rfl hx17 (g))))))))))))))) ?_
  refine q_J.step (fun g => j_iconst (0 : Int32) rfl k32_0 (j_putf rfl rfl rfl rfl hσ18 (j_iload_n rfl rfl (g)))) ?_
  refine J_ite (fun h19 => ?_) (fun h19 => ?_)
  · refine J_bind fun x20 hx20 => ?_
    refine J_bind fun w21 hw21 => ?_
    refine J_cl fun _ σ22 hσ22 => ?_
    refine J_bind fun x24 hx24 => ?_
    refine J_bind fun x25 hx25 => ?_
    refine J_bind fun x26 hx26 => ?_
    refine J_bind fun w28 hw28 => ?_
    refine J_bind fun σ27 hσ27 => ?_
    refine J_bind fun x29 hx29 => ?_
    refine J_bind fun σ30 hσ30 => ?_
    exact J_some (fun h => j_if_f rfl (cc_ne_f h19) (j_aload_n rfl rfl (j_gfr rfl hx20 (j_v0 [.ref x20] [] rfl rfl rfl rfl rfl rfl hw21 (Or.inl rfl) (t_Pa_settle (by omega) hσ22) (j_aload_n rfl rfl (j_gfr rfl hx24 (j_gfr rfl hx25 (j_iload_n rfl rfl (j_aload_n rfl rfl (j_gfr rfl hx26 (j_aas rfl (Or.inl ⟨rfl, rfl⟩) (Or.inr ⟨_, _, rfl, q_ob_some.mp hw28⟩) hσ27 (j_aload_n rfl rfl (j_gfr rfl hx29 (j_iconst (1 : Int32) rfl k32_1 (j_putf rfl rfl (by decide) rfl hσ30 (j_iload_n rfl rfl (j_iret rfl rfl h)))))))))))))))))
  exact J_some (fun h => j_if_t rfl (cc_ne_t h19) (j_iload_n rfl rfl (j_iret rfl rfl h)))
theorem t_Rs_read {fo : Option Nat} {d : Nat} (hd : 9 ≤ d) {v0 : Nat} {v1 : Int32} {σ σ1 : q_H} {r : Int32} (h : f_Rs_read v0 v1 σ = some (r, σ1)) : q_Rel (q_rf fo) q_Ms d 111 [.ref v0, .int v1] σ (.inl (some (.int r))) σ1 := by
  obtain ⟨d, rfl⟩ : ∃ d1, d = d1 + 1 := ⟨d - 1, by omega⟩
  exact q_Rel.of rfl rfl (b_Rs_read hd _ _ σ _ _ h ⟨rfl, rfl⟩)

