/-! SHEET, FORGET: the pairs. -/
section
variable {S : z_SH} {I : z_MI} {J : z_MJ} {P : z_MP} {K : Nat → Bool} {n : Nat × Nat}
set_option maxRecDepth 100000 in
set_option maxHeartbeats 4000000 in
theorem X_forget (H : Inv S I J P K n.1) (a : Int32) : z_call (f_Rs_forget 8 a) (f_Mo_forget 83 a) S I J P n := by
  have B := H.1
  have hS := B.qS
  have hP := B.qP
  obtain ⟨o1, o2, o3, o4, o5⟩ := C_hob (n := n) hS hP
  have om := fun I J P => z_ob (I := I) (J := J) (P := P) (n := n) (s_83 hS)
  rcases z_in a 23 (by omega) with ⟨v, hv, rfl⟩ | ha
  rotate_left
  · refine z_call.no (r := z_n 0) H ?_ ?_
    · simp (disch := omega) only [f_Rs_forget, o2, o4, C_pageOf_o ha, or_true, true_or, or_false, false_or, z_b_T, z_b_F, Bool.false_eq_true, Classical.not_not, decide_eq_true_eq, z_sq, Option.bind_some, z_lits, z_n_add, z_n_mul, z_lt, z_le, z_eq, z_ne1, z_1ne, z_lt1, z_1lt, z_ltT, z_ltF, z_leT, z_leF, z_eqF, z_b_0, z_b_1, ↓reduceIte, eq_self, not_true_eq_false, not_false_eq_true, and_true, true_and, and_false, false_and, Nat.add_zero, Nat.zero_add]
    · simp (disch := omega) only [f_Mo_forget, M_thr hS, om, M_isThere_o hS hP ha, or_true, true_or, or_false, false_or, z_b_T, z_b_F, Bool.false_eq_true, Classical.not_not, decide_eq_true_eq, z_sq, Option.bind_some, z_lits, z_n_add, z_n_mul, z_lt, z_le, z_eq, z_ne1, z_1ne, z_lt1, z_1lt, z_ltT, z_ltF, z_leT, z_leF, z_eqF, z_b_0, z_b_1, ↓reduceIte, eq_self, not_true_eq_false, not_false_eq_true, and_true, true_and, and_false, false_and, Nat.add_zero, Nat.zero_add]
  have p1 := C_pageOf (I := I) (J := J) (n := n) hS hP (show v < 24 by omega)
  by_cases h1 : z_th I v = true
  rotate_left
  · have th := M_isThere (n := n) (I := z_up I 83 0 (z_n 0)) (J := J) hS hP (show v < 24 by omega)
    rw [z_th_c (z_mf.up (J := J) rfl).cg, z_b_f h1] at th
    refine z_call.no (r := z_n 0) H ?_ ?_
    · simp (disch := omega) only [f_Rs_forget, o2, o4, p1, h_pn B (show v < 24 by omega) h1, or_true, true_or, or_false, false_or, z_b_T, z_b_F, Bool.false_eq_true, Classical.not_not, decide_eq_true_eq, z_sq, Option.bind_some, z_lits, z_n_add, z_n_mul, z_lt, z_le, z_eq, z_ne1, z_1ne, z_lt1, z_1lt, z_ltT, z_ltF, z_leT, z_leF, z_eqF, z_b_0, z_b_1, ↓reduceIte, eq_self, not_true_eq_false, not_false_eq_true, and_true, true_and, and_false, false_and, Nat.add_zero, Nat.zero_add]
    · simp (disch := omega) only [f_Mo_forget, M_thr hS, om, th, or_true, true_or, or_false, false_or, z_b_T, z_b_F, Bool.false_eq_true, Classical.not_not, decide_eq_true_eq, z_sq, Option.bind_some, z_lits, z_n_add, z_n_mul, z_lt, z_le, z_eq, z_ne1, z_1ne, z_lt1, z_1lt, z_ltT, z_ltF, z_leT, z_leF, z_eqF, z_b_0, z_b_1, ↓reduceIte, eq_self, not_true_eq_false, not_false_eq_true, and_true, true_and, and_false, false_and, Nat.add_zero, Nat.zero_add]
  obtain ⟨p, e1, -, -⟩ := h_pg B (fun _ _ => rfl) (show v < 24 by omega) h1
  have hP' : z_Pt (z_pu P 18 v none) := by
    intro q hq
    have h1 : ∀ q ∈ z_pl, q.1 ≠ 18 := by decide
    rw [z_pu_a (h1 q hq)]; exact hP q hq
  have w18 : ∀ I J, q_sa (z_h S I J P n) 25 18 (z_n v) .null = some (z_h S I J (z_pu P 18 v none) n) := fun _ _ => z_saz (s_18 hS) (by decide) (by omega) (z_rpl (by omega))
  have o1' : ∀ I J, q_gr (q_gf (z_h S I J (z_pu P 18 v none) n) 0 8 6) = some 22 := (C_hob (n := n) hS hP').1
  have r18 : q_gr (q_gf (z_h S I J P n) 2 13 4) = some 18 := z_gr (s_13 hS) rfl (p_13_4 hP)
  have w22 : ∀ I J v, q_sf (z_h S I J (z_pu P 18 v none) n) 3 22 0 (.int (z_n 1)) = some (z_h S (z_up I 22 0 (z_n 1)) J (z_pu P 18 v none) n) := fun _ _ _ => z_sfi (s_22 hS) (by decide) rfl
  have th := M_isThere (n := n) (I := z_up (z_up I 22 0 (z_n 1)) 83 0 (z_n 0)) (J := J) hS hP' (show v < 24 by omega)
  have c0 : z_th (z_up (z_up I 22 0 (z_n 1)) 83 0 (z_n 0)) v = z_th I v := by unfold z_th; rw [z_ups (by decide), z_ups (by decide), z_ups (by decide), z_ups (by decide)]
  rw [c0, z_b_t h1] at th
  refine ⟨z_n 1, S, z_up I 22 0 (z_n 1), J, z_pu P 18 v none, n, K, z_up (z_up (z_up I 22 0 (z_n 1)) 83 0 (z_n 0)) 86 v (z_n 0), J, ?_, ?_, ⟨by omega, by omega, by omega⟩, ?_⟩
  · simp (disch := omega) only [f_Rs_forget, o2, o4, p1, e1, r18, w18, o1', w22, or_true, true_or, or_false, false_or, z_b_T, z_b_F, Bool.false_eq_true, Classical.not_not, decide_eq_true_eq, z_sq, Option.bind_some, z_lits, z_n_add, z_n_mul, z_lt, z_le, z_eq, z_ne1, z_1ne, z_lt1, z_1lt, z_ltT, z_ltF, z_leT, z_leF, z_eqF, z_b_0, z_b_1, ↓reduceIte, eq_self, not_true_eq_false, not_false_eq_true, and_true, true_and, and_false, false_and, Nat.add_zero, Nat.zero_add]
  · simp (disch := omega) only [f_Mo_forget, M_thr hS, om, th, z_Mr hS hP', z_Mw hS, or_true, true_or, or_false, false_or, z_b_T, z_b_F, Bool.false_eq_true, Classical.not_not, decide_eq_true_eq, z_sq, Option.bind_some, z_lits, z_n_add, z_n_mul, z_lt, z_le, z_eq, z_ne1, z_1ne, z_lt1, z_1lt, z_ltT, z_ltF, z_leT, z_leF, z_eqF, z_b_0, z_b_1, ↓reduceIte, eq_self, not_true_eq_false, not_false_eq_true, and_true, true_and, and_false, false_and, Nat.add_zero, Nat.zero_add]
  have e : ∀ a, a ≠ 22 → a ≠ 83 → a ≠ 86 → z_up (z_up (z_up I 22 0 (z_n 1)) 83 0 (z_n 0)) 86 v (z_n 0) a = I a := fun a h1 h2 h3 => by rw [z_ups h3, z_ups h2, z_ups h1]
  have e83 : ∀ i, i ≠ 0 → z_up (z_up (z_up I 22 0 (z_n 1)) 83 0 (z_n 0)) 86 v (z_n 0) 83 i = I 83 i := fun i hi => by rw [z_ups (by decide), z_up_e, if_neg hi, z_ups (by decide)]
  have e86 : ∀ i, z_up (z_up (z_up I 22 0 (z_n 1)) 83 0 (z_n 0)) 86 v (z_n 0) 86 i = if i = v then z_n 0 else I 86 i := fun i => by rw [z_up_e, z_ups (by decide), z_ups (by decide)]
  have e22 : z_up (z_up (z_up I 22 0 (z_n 1)) 83 0 (z_n 0)) 86 v (z_n 0) 22 0 = z_n 1 := by rw [z_ups (by decide), z_ups (by decide), z_up_s]
  generalize z_up (z_up (z_up I 22 0 (z_n 1)) 83 0 (z_n 0)) 86 v (z_n 0) = Y at *
  obtain ⟨m1, m2, m3, m4, m5, m6, m7⟩ := B.2.2.2.1
  obtain ⟨c1, c2, c3, c4, c5⟩ := B.qC
  have ev : ∀ s, z_vi Y s = z_vi I s := fun s => by unfold z_vi; rw [e 87 (by decide) (by decide) (by decide)]
  refine H.set (fun a ha => ⟨e a (by omega) (by omega) (by omega), rfl⟩) (e83 16 (by decide)) (fun b hb => by funext j; exact z_pu_a hb) (z_iM.set B.2.2.2.1 (fun a h1 h2 => ⟨e a (by omega) (by omega) (by omega), rfl⟩) (fun s hs => ?_) (fun s hs => ?_) (fun u hu => ?_) (fun i hi => ?_) ?_) ⟨fun s hs => ?_, fun u hu => ?_, fun t' k' ht' hk' => ?_, fun i hi => ?_, ?_⟩ (Or.inr e22) (fun s hs => ?_)
  · rw [ev, e 87 (by decide) (by decide) (by decide)]; exact m2 s hs
  · obtain ⟨k1, k2, k3, k4, k5⟩ := m4 s hs
    rw [e 85 (by decide) (by decide) (by decide), e86, e 88 (by decide) (by decide) (by decide), e 89 (by decide) (by decide) (by decide)]
    refine ⟨k1, ?_, ?_, k4, k5⟩
    · by_cases q : s = v
      · rw [if_pos q]; exact Or.inl rfl
      · rw [if_neg q]; exact k2
    · by_cases q : s = v
      · rw [if_pos q]; intro h; exact absurd h (by decide)
      · rw [if_neg q]; exact k3
  · rw [e 84 (by decide) (by decide) (by decide)]; exact m5 u hu
  · rw [e 101 (by decide) (by decide) (by decide)]; exact m6 i hi
  · rw [e83 32 (by decide), e 103 (by decide) (by decide) (by decide)]; exact m7
  · rw [e 14 (by decide) (by decide) (by decide), e 15 (by decide) (by decide) (by decide), e 16 (by decide) (by decide) (by decide), e 17 (by decide) (by decide) (by decide), e 85 (by decide) (by decide) (by decide), e 87 (by decide) (by decide) (by decide), e 88 (by decide) (by decide) (by decide), e 89 (by decide) (by decide) (by decide)]; exact c1 s hs
  · rw [e 19 (by decide) (by decide) (by decide), e 84 (by decide) (by decide) (by decide)]; exact c2 u hu
  · rw [e (29 + t') (by omega) (by omega) (by omega), e 101 (by decide) (by decide) (by decide)]; exact c3 t' k' ht' hk'
  · rw [e 33 (by decide) (by decide) (by decide), e 103 (by decide) (by decide) (by decide)]; exact c4 i hi
  · rw [e 27 (by decide) (by decide) (by decide), e83 32 (by decide)]; exact c5
  · by_cases q : s = v
    · refine Or.inl ⟨?_, by rw [q]; exact z_pu_s _ _ _ _⟩
      unfold z_th
      rw [e86, if_pos q]
      exact decide_eq_false (fun h => h.2 rfl)
    · have et : z_th Y s = z_th I s := by unfold z_th; rw [e86, if_neg q, e 85 (by decide) (by decide) (by decide)]
      have ed : z_Ds Y J s = z_Ds I J s := by
        have el : z_ln Y s = z_ln I s := by unfold z_ln; rw [e 90 (by decide) (by decide) (by decide)]
        unfold z_Ds
        rw [el]
        refine Prod.ext rfl (Prod.ext ?_ rfl)
        funext k l
        show (if k < 5 then Y (91 + k) (12 * s + l) else z_n 0) = if k < 5 then I (91 + k) (12 * s + l) else z_n 0
        rw [e (91 + k) (by omega) (by omega) (by omega)]
      rw [et, ed, z_pu_i q]; exact B.2.2.2.2.2 s hs
set_option maxRecDepth 100000 in
set_option maxHeartbeats 4000000 in
theorem X_sheet (H : Inv S I J P K n.1) (a b d : Int32) : z_call (f_Rs_sheet 8 a b d) (f_Mo_sheet 83 a b d) S I J P n := by
  have B := H.1
  have hS := B.qS
  have hP := B.qP
  obtain ⟨o1, o2, o3, o4, o5⟩ := C_hob (n := n) hS hP
  have om := fun I J P => z_ob (I := I) (J := J) (P := P) (n := n) (s_83 hS)
  rcases z_in a 23 (by omega) with ⟨v, hv, rfl⟩ | ha
  rotate_left
  · refine z_call.no (r := z_n 0) H ?_ ?_
    · simp (disch := omega) only [f_Rs_sheet, C_out ha, or_true, true_or, or_false, false_or, z_b_T, z_b_F, Bool.false_eq_true, Classical.not_not, decide_eq_true_eq, z_sq, Option.bind_some, z_lits, z_n_add, z_n_mul, z_lt, z_le, z_eq, z_ne1, z_1ne, z_lt1, z_1lt, z_ltT, z_ltF, z_leT, z_leF, z_eqF, z_b_0, z_b_1, ↓reduceIte, eq_self, not_true_eq_false, not_false_eq_true, and_true, true_and, and_false, false_and, Nat.add_zero, Nat.zero_add]
    · simp (disch := omega) only [f_Mo_sheet, M_thr hS, M_wout ha, or_true, true_or, or_false, false_or, z_b_T, z_b_F, Bool.false_eq_true, Classical.not_not, decide_eq_true_eq, z_sq, Option.bind_some, z_lits, z_n_add, z_n_mul, z_lt, z_le, z_eq, z_ne1, z_1ne, z_lt1, z_1lt, z_ltT, z_ltF, z_leT, z_leF, z_eqF, z_b_0, z_b_1, ↓reduceIte, eq_self, not_true_eq_false, not_false_eq_true, and_true, true_and, and_false, false_and, Nat.add_zero, Nat.zero_add]
  rcases z_in b 5 (by omega) with ⟨x, hx, rfl⟩ | hb
  rotate_left
  · refine z_call.no (r := z_n 0) H ?_ ?_
    · simp (disch := omega) only [f_Rs_sheet, C_in, C_out hb, or_true, true_or, or_false, false_or, z_b_T, z_b_F, Bool.false_eq_true, Classical.not_not, decide_eq_true_eq, z_sq, Option.bind_some, z_lits, z_n_add, z_n_mul, z_lt, z_le, z_eq, z_ne1, z_1ne, z_lt1, z_1lt, z_ltT, z_ltF, z_leT, z_leF, z_eqF, z_b_0, z_b_1, ↓reduceIte, eq_self, not_true_eq_false, not_false_eq_true, and_true, true_and, and_false, false_and, Nat.add_zero, Nat.zero_add]
    · simp (disch := omega) only [f_Mo_sheet, M_thr hS, M_win, M_wout hb, or_true, true_or, or_false, false_or, z_b_T, z_b_F, Bool.false_eq_true, Classical.not_not, decide_eq_true_eq, z_sq, Option.bind_some, z_lits, z_n_add, z_n_mul, z_lt, z_le, z_eq, z_ne1, z_1ne, z_lt1, z_1lt, z_ltT, z_ltF, z_leT, z_leF, z_eqF, z_b_0, z_b_1, ↓reduceIte, eq_self, not_true_eq_false, not_false_eq_true, and_true, true_and, and_false, false_and, Nat.add_zero, Nat.zero_add]
  rcases z_in d 7 (by omega) with ⟨y, hy, rfl⟩ | hd
  rotate_left
  · refine z_call.no (r := z_n 0) H ?_ ?_
    · simp (disch := omega) only [f_Rs_sheet, C_in, C_out hd, or_true, true_or, or_false, false_or, z_b_T, z_b_F, Bool.false_eq_true, Classical.not_not, decide_eq_true_eq, z_sq, Option.bind_some, z_lits, z_n_add, z_n_mul, z_lt, z_le, z_eq, z_ne1, z_1ne, z_lt1, z_1lt, z_ltT, z_ltF, z_leT, z_leF, z_eqF, z_b_0, z_b_1, ↓reduceIte, eq_self, not_true_eq_false, not_false_eq_true, and_true, true_and, and_false, false_and, Nat.add_zero, Nat.zero_add]
    · simp (disch := omega) only [f_Mo_sheet, M_thr hS, M_win, M_wout hd, or_true, true_or, or_false, false_or, z_b_T, z_b_F, Bool.false_eq_true, Classical.not_not, decide_eq_true_eq, z_sq, Option.bind_some, z_lits, z_n_add, z_n_mul, z_lt, z_le, z_eq, z_ne1, z_1ne, z_lt1, z_1lt, z_ltT, z_ltF, z_leT, z_leF, z_eqF, z_b_0, z_b_1, ↓reduceIte, eq_self, not_true_eq_false, not_false_eq_true, and_true, true_and, and_false, false_and, Nat.add_zero, Nat.zero_add]
  have hP' : z_Pt (z_pu P 18 v none) := by
    intro q hq
    have h1 : ∀ q ∈ z_pl, q.1 ≠ 18 := by decide
    rw [z_pu_a (h1 q hq)]; exact hP q hq
  have w18 : ∀ I J, q_sa (z_h S I J P n) 25 18 (z_n v) .null = some (z_h S I J (z_pu P 18 v none) n) := fun _ _ => z_saz (s_18 hS) (by decide) (by omega) (z_rpl (by omega))
  have o1' : ∀ I J, q_gr (q_gf (z_h S I J (z_pu P 18 v none) n) 0 8 6) = some 22 := (C_hob (n := n) hS hP').1
  have r18 : ∀ I J, q_gr (q_gf (z_h S I J P n) 2 13 4) = some 18 := fun _ _ => z_gr (s_13 hS) rfl (p_13_4 hP)
  have w22 : ∀ I J v, q_sf (z_h S I J (z_pu P 18 v none) n) 3 22 0 (.int (z_n 1)) = some (z_h S (z_up I 22 0 (z_n 1)) J (z_pu P 18 v none) n) := fun _ _ _ => z_sfi (s_22 hS) (by decide) rfl
  refine ⟨z_n 1, S, z_up (z_up (z_up (z_up (z_up I 14 v (z_n 1)) 15 v (z_n x)) 16 v (z_n y)) 17 v (z_n 2)) 22 0 (z_n 1), J, z_pu P 18 v none, n, K, z_up (z_up (z_up (z_up (z_up (z_up (z_up (z_up (z_up (z_up (z_up I 14 v (z_n 1)) 15 v (z_n x)) 16 v (z_n y)) 17 v (z_n 2)) 22 0 (z_n 1)) 83 0 (z_n 0)) 85 v (z_n 1)) 86 v (z_n 0)) 87 v (z_n x)) 88 v (z_n y)) 89 v (z_n 2), J, ?_, ?_, ⟨by omega, by omega, by omega⟩, ?_⟩
  · simp (disch := omega) only [f_Rs_sheet, C_in, o2, o4, f_Sf_tell, z_Shr hS hP, z_Shw hS, r18, w18, o1', w22, or_true, true_or, or_false, false_or, z_b_T, z_b_F, Bool.false_eq_true, Classical.not_not, decide_eq_true_eq, z_sq, Option.bind_some, z_lits, z_n_add, z_n_mul, z_lt, z_le, z_eq, z_ne1, z_1ne, z_lt1, z_1lt, z_ltT, z_ltF, z_leT, z_leF, z_eqF, z_b_0, z_b_1, ↓reduceIte, eq_self, not_true_eq_false, not_false_eq_true, and_true, true_and, and_false, false_and, Nat.add_zero, Nat.zero_add]
  · simp (disch := omega) only [f_Mo_sheet, M_thr hS, M_win, z_Mr hS hP', z_Mw hS, or_true, true_or, or_false, false_or, z_b_T, z_b_F, Bool.false_eq_true, Classical.not_not, decide_eq_true_eq, z_sq, Option.bind_some, z_lits, z_n_add, z_n_mul, z_lt, z_le, z_eq, z_ne1, z_1ne, z_lt1, z_1lt, z_ltT, z_ltF, z_leT, z_leF, z_eqF, z_b_0, z_b_1, ↓reduceIte, eq_self, not_true_eq_false, not_false_eq_true, and_true, true_and, and_false, false_and, Nat.add_zero, Nat.zero_add]
  have e : ∀ a, a ≠ 14 → a ≠ 15 → a ≠ 16 → a ≠ 17 → a ≠ 22 → a ≠ 83 → a ≠ 85 → a ≠ 86 → a ≠ 87 → a ≠ 88 → a ≠ 89 → z_up (z_up (z_up (z_up (z_up (z_up (z_up (z_up (z_up (z_up (z_up I 14 v (z_n 1)) 15 v (z_n x)) 16 v (z_n y)) 17 v (z_n 2)) 22 0 (z_n 1)) 83 0 (z_n 0)) 85 v (z_n 1)) 86 v (z_n 0)) 87 v (z_n x)) 88 v (z_n y)) 89 v (z_n 2) a = I a := fun a h1 h2 h3 h4 h5 h6 h7 h8 h9 h10 h11 => by rw [z_ups h11, z_ups h10, z_ups h9, z_ups h8, z_ups h7, z_ups h6, z_ups h5, z_ups h4, z_ups h3, z_ups h2, z_ups h1]
  have e83 : ∀ i, i ≠ 0 → z_up (z_up (z_up (z_up (z_up (z_up (z_up (z_up (z_up (z_up (z_up I 14 v (z_n 1)) 15 v (z_n x)) 16 v (z_n y)) 17 v (z_n 2)) 22 0 (z_n 1)) 83 0 (z_n 0)) 85 v (z_n 1)) 86 v (z_n 0)) 87 v (z_n x)) 88 v (z_n y)) 89 v (z_n 2) 83 i = I 83 i := fun i hi => by simp only [z_up_e, z_up, hi, false_and, and_false, if_false, reduceCtorEq, Nat.reduceEqDiff]
  have e22 : z_up (z_up (z_up (z_up (z_up (z_up (z_up (z_up (z_up (z_up (z_up I 14 v (z_n 1)) 15 v (z_n x)) 16 v (z_n y)) 17 v (z_n 2)) 22 0 (z_n 1)) 83 0 (z_n 0)) 85 v (z_n 1)) 86 v (z_n 0)) 87 v (z_n x)) 88 v (z_n y)) 89 v (z_n 2) 22 0 = z_n 1 := by rw [z_ups (by decide), z_ups (by decide), z_ups (by decide), z_ups (by decide), z_ups (by decide), z_ups (by decide), z_up_s]
  have f14 : ∀ i, z_up (z_up (z_up (z_up (z_up (z_up (z_up (z_up (z_up (z_up (z_up I 14 v (z_n 1)) 15 v (z_n x)) 16 v (z_n y)) 17 v (z_n 2)) 22 0 (z_n 1)) 83 0 (z_n 0)) 85 v (z_n 1)) 86 v (z_n 0)) 87 v (z_n x)) 88 v (z_n y)) 89 v (z_n 2) 14 i = if i = v then z_n 1 else I 14 i := fun i => by rw [z_ups (by decide), z_ups (by decide), z_ups (by decide), z_ups (by decide), z_ups (by decide), z_ups (by decide), z_ups (by decide), z_ups (by decide), z_ups (by decide), z_ups (by decide), z_up_e]
  have f15 : ∀ i, z_up (z_up (z_up (z_up (z_up (z_up (z_up (z_up (z_up (z_up (z_up I 14 v (z_n 1)) 15 v (z_n x)) 16 v (z_n y)) 17 v (z_n 2)) 22 0 (z_n 1)) 83 0 (z_n 0)) 85 v (z_n 1)) 86 v (z_n 0)) 87 v (z_n x)) 88 v (z_n y)) 89 v (z_n 2) 15 i = if i = v then z_n x else I 15 i := fun i => by rw [z_ups (by decide), z_ups (by decide), z_ups (by decide), z_ups (by decide), z_ups (by decide), z_ups (by decide), z_ups (by decide), z_ups (by decide), z_ups (by decide), z_up_e, z_ups (by decide)]
  have f16 : ∀ i, z_up (z_up (z_up (z_up (z_up (z_up (z_up (z_up (z_up (z_up (z_up I 14 v (z_n 1)) 15 v (z_n x)) 16 v (z_n y)) 17 v (z_n 2)) 22 0 (z_n 1)) 83 0 (z_n 0)) 85 v (z_n 1)) 86 v (z_n 0)) 87 v (z_n x)) 88 v (z_n y)) 89 v (z_n 2) 16 i = if i = v then z_n y else I 16 i := fun i => by rw [z_ups (by decide), z_ups (by decide), z_ups (by decide), z_ups (by decide), z_ups (by decide), z_ups (by decide), z_ups (by decide), z_ups (by decide), z_up_e, z_ups (by decide), z_ups (by decide)]
  have f17 : ∀ i, z_up (z_up (z_up (z_up (z_up (z_up (z_up (z_up (z_up (z_up (z_up I 14 v (z_n 1)) 15 v (z_n x)) 16 v (z_n y)) 17 v (z_n 2)) 22 0 (z_n 1)) 83 0 (z_n 0)) 85 v (z_n 1)) 86 v (z_n 0)) 87 v (z_n x)) 88 v (z_n y)) 89 v (z_n 2) 17 i = if i = v then z_n 2 else I 17 i := fun i => by rw [z_ups (by decide), z_ups (by decide), z_ups (by decide), z_ups (by decide), z_ups (by decide), z_ups (by decide), z_ups (by decide), z_up_e, z_ups (by decide), z_ups (by decide), z_ups (by decide)]
  have f85 : ∀ i, z_up (z_up (z_up (z_up (z_up (z_up (z_up (z_up (z_up (z_up (z_up I 14 v (z_n 1)) 15 v (z_n x)) 16 v (z_n y)) 17 v (z_n 2)) 22 0 (z_n 1)) 83 0 (z_n 0)) 85 v (z_n 1)) 86 v (z_n 0)) 87 v (z_n x)) 88 v (z_n y)) 89 v (z_n 2) 85 i = if i = v then z_n 1 else I 85 i := fun i => by rw [z_ups (by decide), z_ups (by decide), z_ups (by decide), z_ups (by decide), z_up_e, z_ups (by decide), z_ups (by decide), z_ups (by decide), z_ups (by decide), z_ups (by decide), z_ups (by decide)]
  have f86 : ∀ i, z_up (z_up (z_up (z_up (z_up (z_up (z_up (z_up (z_up (z_up (z_up I 14 v (z_n 1)) 15 v (z_n x)) 16 v (z_n y)) 17 v (z_n 2)) 22 0 (z_n 1)) 83 0 (z_n 0)) 85 v (z_n 1)) 86 v (z_n 0)) 87 v (z_n x)) 88 v (z_n y)) 89 v (z_n 2) 86 i = if i = v then z_n 0 else I 86 i := fun i => by rw [z_ups (by decide), z_ups (by decide), z_ups (by decide), z_up_e, z_ups (by decide), z_ups (by decide), z_ups (by decide), z_ups (by decide), z_ups (by decide), z_ups (by decide), z_ups (by decide)]
  have f87 : ∀ i, z_up (z_up (z_up (z_up (z_up (z_up (z_up (z_up (z_up (z_up (z_up I 14 v (z_n 1)) 15 v (z_n x)) 16 v (z_n y)) 17 v (z_n 2)) 22 0 (z_n 1)) 83 0 (z_n 0)) 85 v (z_n 1)) 86 v (z_n 0)) 87 v (z_n x)) 88 v (z_n y)) 89 v (z_n 2) 87 i = if i = v then z_n x else I 87 i := fun i => by rw [z_ups (by decide), z_ups (by decide), z_up_e, z_ups (by decide), z_ups (by decide), z_ups (by decide), z_ups (by decide), z_ups (by decide), z_ups (by decide), z_ups (by decide), z_ups (by decide)]
  have f88 : ∀ i, z_up (z_up (z_up (z_up (z_up (z_up (z_up (z_up (z_up (z_up (z_up I 14 v (z_n 1)) 15 v (z_n x)) 16 v (z_n y)) 17 v (z_n 2)) 22 0 (z_n 1)) 83 0 (z_n 0)) 85 v (z_n 1)) 86 v (z_n 0)) 87 v (z_n x)) 88 v (z_n y)) 89 v (z_n 2) 88 i = if i = v then z_n y else I 88 i := fun i => by rw [z_ups (by decide), z_up_e, z_ups (by decide), z_ups (by decide), z_ups (by decide), z_ups (by decide), z_ups (by decide), z_ups (by decide), z_ups (by decide), z_ups (by decide), z_ups (by decide)]
  have f89 : ∀ i, z_up (z_up (z_up (z_up (z_up (z_up (z_up (z_up (z_up (z_up (z_up I 14 v (z_n 1)) 15 v (z_n x)) 16 v (z_n y)) 17 v (z_n 2)) 22 0 (z_n 1)) 83 0 (z_n 0)) 85 v (z_n 1)) 86 v (z_n 0)) 87 v (z_n x)) 88 v (z_n y)) 89 v (z_n 2) 89 i = if i = v then z_n 2 else I 89 i := fun i => by rw [z_up_e, z_ups (by decide), z_ups (by decide), z_ups (by decide), z_ups (by decide), z_ups (by decide), z_ups (by decide), z_ups (by decide), z_ups (by decide), z_ups (by decide), z_ups (by decide)]
  generalize z_up (z_up (z_up (z_up (z_up (z_up (z_up (z_up (z_up (z_up (z_up I 14 v (z_n 1)) 15 v (z_n x)) 16 v (z_n y)) 17 v (z_n 2)) 22 0 (z_n 1)) 83 0 (z_n 0)) 85 v (z_n 1)) 86 v (z_n 0)) 87 v (z_n x)) 88 v (z_n y)) 89 v (z_n 2) = Y at *
  obtain ⟨m1, m2, m3, m4, m5, m6, m7⟩ := B.2.2.2.1
  obtain ⟨c1, c2, c3, c4, c5⟩ := B.qC
  have E : ∀ a, (a < 14 ∨ (17 < a ∧ a < 22) ∨ (22 < a ∧ a < 83) ∨ a = 84 ∨ 89 < a) → Y a = I a := fun a ha => e a (by omega) (by omega) (by omega) (by omega) (by omega) (by omega) (by omega) (by omega) (by omega) (by omega) (by omega)
  refine H.set (fun a ha => ⟨E a (by omega), rfl⟩) (e83 16 (by decide)) (fun b hb => by funext j; exact z_pu_a hb) (z_iM.set B.2.2.2.1 (fun a h1 h2 => ⟨E a (by omega), rfl⟩) (fun s hs => ?_) (fun s hs => ?_) (fun u hu => ?_) (fun i hi => ?_) ?_) ⟨fun s hs => ?_, fun u hu => ?_, fun t' k' ht' hk' => ?_, fun i hi => ?_, ?_⟩ (Or.inr e22) (fun s hs => ?_)
  · unfold z_vi
    rw [f87]
    by_cases q : s = v
    · rw [if_pos q, z_n_nat (by omega)]; exact ⟨rfl, by omega⟩
    · rw [if_neg q]; exact m2 s hs
  · obtain ⟨k1, k2, k3, k4, k5⟩ := m4 s hs
    rw [f85, f86, f88, f89]
    by_cases q : s = v
    · simp only [if_pos q]
      exact ⟨Or.inr trivial, Or.inl trivial, fun _ => trivial, ⟨y, rfl, hy⟩, ⟨2, rfl, by omega⟩⟩
    · simp only [if_neg q]; exact ⟨k1, k2, k3, k4, k5⟩
  · rw [E 84 (by omega)]; exact m5 u hu
  · rw [E 101 (by omega)]; exact m6 i hi
  · rw [e83 32 (by decide), E 103 (by omega)]; exact m7
  · obtain ⟨k1, k2, k3, k4⟩ := c1 s hs
    rw [f14, f15, f16, f17, f85, f87, f88, f89, k1, k2, k3, k4]
    exact ⟨rfl, rfl, rfl, rfl⟩
  · rw [E 19 (by omega), E 84 (by omega)]; exact c2 u hu
  · rw [E (29 + t') (by omega), E 101 (by omega)]; exact c3 t' k' ht' hk'
  · rw [E 33 (by omega), E 103 (by omega)]; exact c4 i hi
  · rw [E 27 (by omega), e83 32 (by decide)]; exact c5
  · by_cases q : s = v
    · refine Or.inl ⟨?_, by rw [q]; exact z_pu_s _ _ _ _⟩
      unfold z_th
      rw [f86, if_pos q]
      exact decide_eq_false (fun h => h.2 rfl)
    · have et : z_th Y s = z_th I s := by unfold z_th; rw [f86, if_neg q, f85, if_neg q]
      have ed : z_Ds Y J s = z_Ds I J s := by
        have el : z_ln Y s = z_ln I s := by unfold z_ln; rw [E 90 (by omega)]
        unfold z_Ds
        rw [el]
        refine Prod.ext rfl (Prod.ext ?_ rfl)
        funext k l
        show (if k < 5 then Y (91 + k) (12 * s + l) else z_n 0) = if k < 5 then I (91 + k) (12 * s + l) else z_n 0
        rw [E (91 + k) (by omega)]
      rw [et, ed, z_pu_i q]; exact B.2.2.2.2.2 s hs
end
