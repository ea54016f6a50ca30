/-! sort, taken, line. -/
section
variable {S : z_SH} {I : z_MI} {J : z_MJ} {P : z_MP} {K : Nat → Bool} {n : Nat × Nat}
-- the page of a wife, or none
set_option maxRecDepth 100000 in
set_option maxHeartbeats 4000000 in
theorem C_pow (B : z_B S I J P K n.1) {s l : Nat} (hs : s < 24) (hl : l ≤ 11) : f_Rs_pageOfWife 8 (z_n s) (z_n l) (z_h S I J P n) = some (if z_wf I s l = true then P 18 s else none, z_h S I J P n) := by
  have hS := B.qS
  have hP := B.qP
  have e8 : q_gr (q_gf (z_h S I J P n) 0 8 3) = some 13 := z_gr (s_8 hS) rfl (p_8_3 hP)
  rcases B.pg hs with ⟨h5, h6⟩ | ⟨h5, p, h6, h7⟩
  · have : ¬ z_wf I s l = true := by
      unfold z_wf
      rw [h5]; simp
    simp (disch := omega) only [f_Rs_pageOfWife, e8, z_ob (s_13 hS), C_pageOf hS hP, h6, this, or_true, true_or, or_false, false_or, z_b_T, z_b_F, Bool.false_eq_true, Classical.not_not, decide_eq_true_eq, z_sq, Option.bind_some, z_lits, z_n_add, z_n_mul, z_lt, z_le, z_eq, z_ne1, z_1ne, z_lt1, z_1lt, z_ltT, z_ltF, z_leT, z_leF, z_eqF, z_b_0, z_b_1, ↓reduceIte, eq_self, not_true_eq_false, not_false_eq_true, and_true, true_and, and_false, false_and, Nat.add_zero, Nat.zero_add]
  · have D := B.qD hs
    have D1 : z_ln I s ≤ 12 := D.1
    have r3 := z_ps_r h7.2.1
    have hy1 := C_has (J := J) (n := n) h7.2.1 h7.size D.1 hl
    have ew : (z_wf I s l = true) = (l < z_ln I s ∧ ¬ I 93 (12 * s + l) = -z_n 1) := by
      unfold z_wf
      rw [h5]; simp
    by_cases k1 : l < z_ln I s
    · have w : I (p + 7) l = I 93 (12 * s + l) := h7.2.2.1.w k1
      rcases z_tf (I 93 (12 * s + l) = -z_n 1) with k2 | k2
      · simp (disch := omega) only [f_Rs_pageOfWife, e8, z_ob (s_13 hS), C_pageOf hS hP, h6, r3, hy1, show l < (z_Ds I J s).1 from k1, w, ew, k2, or_true, true_or, or_false, false_or, z_b_T, z_b_F, Bool.false_eq_true, Classical.not_not, decide_eq_true_eq, z_sq, Option.bind_some, z_lits, z_n_add, z_n_mul, z_lt, z_le, z_eq, z_ne1, z_1ne, z_lt1, z_1lt, z_ltT, z_ltF, z_leT, z_leF, z_eqF, z_b_0, z_b_1, ↓reduceIte, eq_self, not_true_eq_false, not_false_eq_true, and_true, true_and, and_false, false_and, Nat.add_zero, Nat.zero_add]
      · simp (disch := omega) only [f_Rs_pageOfWife, e8, z_ob (s_13 hS), C_pageOf hS hP, h6, r3, hy1, show l < (z_Ds I J s).1 from k1, w, ew, k1, k2, or_true, true_or, or_false, false_or, z_b_T, z_b_F, Bool.false_eq_true, Classical.not_not, decide_eq_true_eq, z_sq, Option.bind_some, z_lits, z_n_add, z_n_mul, z_lt, z_le, z_eq, z_ne1, z_1ne, z_lt1, z_1lt, z_ltT, z_ltF, z_leT, z_leF, z_eqF, z_b_0, z_b_1, ↓reduceIte, eq_self, not_true_eq_false, not_false_eq_true, and_true, true_and, and_false, false_and, Nat.add_zero, Nat.zero_add]
    · simp (disch := omega) only [f_Rs_pageOfWife, e8, z_ob (s_13 hS), C_pageOf hS hP, h6, r3, hy1, show ¬ l < (z_Ds I J s).1 from k1, ew, k1, or_true, true_or, or_false, false_or, z_b_T, z_b_F, Bool.false_eq_true, Classical.not_not, decide_eq_true_eq, z_sq, Option.bind_some, z_lits, z_n_add, z_n_mul, z_lt, z_le, z_eq, z_ne1, z_1ne, z_lt1, z_1lt, z_ltT, z_ltF, z_leT, z_leF, z_eqF, z_b_0, z_b_1, ↓reduceIte, eq_self, not_true_eq_false, not_false_eq_true, and_true, true_and, and_false, false_and, Nat.add_zero, Nat.zero_add]
theorem C_pow_oo (hS : z_St S) (hP : z_Pt P) {s l : Int32} (hs : z_o s 23) : f_Rs_pageOfWife 8 s l (z_h S I J P n) = some (none, z_h S I J P n) := by
  have e8 : q_gr (q_gf (z_h S I J P n) 0 8 3) = some 13 := z_gr (s_8 hS) rfl (p_8_3 hP)
  simp (disch := omega) only [f_Rs_pageOfWife, e8, z_ob (s_13 hS), C_pageOf_o hs, or_true, true_or, or_false, false_or, z_b_T, z_b_F, Bool.false_eq_true, Classical.not_not, decide_eq_true_eq, z_sq, Option.bind_some, z_lits, z_n_add, z_n_mul, z_lt, z_le, z_eq, z_ne1, z_1ne, z_lt1, z_1lt, z_ltT, z_ltF, z_leT, z_leF, z_eqF, z_b_0, z_b_1, ↓reduceIte, eq_self, not_true_eq_false, not_false_eq_true, and_true, true_and, and_false, false_and, Nat.add_zero, Nat.zero_add]
theorem C_pow_o (B : z_B S I J P K n.1) {s : Nat} {l : Int32} (hs : s < 24) (hl : z_o l 11) : f_Rs_pageOfWife 8 (z_n s) l (z_h S I J P n) = some (none, z_h S I J P n) := by
  have hS := B.qS
  have hP := B.qP
  have e8 : q_gr (q_gf (z_h S I J P n) 0 8 3) = some 13 := z_gr (s_8 hS) rfl (p_8_3 hP)
  rcases B.pg hs with ⟨h5, h6⟩ | ⟨h5, p, h6, h7⟩
  · simp (disch := omega) only [f_Rs_pageOfWife, e8, z_ob (s_13 hS), C_pageOf hS hP, h6, or_true, true_or, or_false, false_or, z_b_T, z_b_F, Bool.false_eq_true, Classical.not_not, decide_eq_true_eq, z_sq, Option.bind_some, z_lits, z_n_add, z_n_mul, z_lt, z_le, z_eq, z_ne1, z_1ne, z_lt1, z_1lt, z_ltT, z_ltF, z_leT, z_leF, z_eqF, z_b_0, z_b_1, ↓reduceIte, eq_self, not_true_eq_false, not_false_eq_true, and_true, true_and, and_false, false_and, Nat.add_zero, Nat.zero_add]
  · have r3 := z_ps_r h7.2.1
    have hy1 := C_has_o (J := J) (n := n) h7.2.1 h7.size (B.qD hs).1 hl
    simp (disch := omega) only [f_Rs_pageOfWife, e8, z_ob (s_13 hS), C_pageOf hS hP, h6, r3, hy1, or_true, true_or, or_false, false_or, z_b_T, z_b_F, Bool.false_eq_true, Classical.not_not, decide_eq_true_eq, z_sq, Option.bind_some, z_lits, z_n_add, z_n_mul, z_lt, z_le, z_eq, z_ne1, z_1ne, z_lt1, z_1lt, z_ltT, z_ltF, z_leT, z_leF, z_eqF, z_b_0, z_b_1, ↓reduceIte, eq_self, not_true_eq_false, not_false_eq_true, and_true, true_and, and_false, false_and, Nat.add_zero, Nat.zero_add]
/-- a wife's page, and her rows in the reference -/
theorem z_B.wife (B : z_B S I J P K n.1) {s l : Nat} (hs : s < 24) (hw : z_wf I s l = true) : ∃ p, P 18 s = some p ∧ z_pg S I J P K n.1 p (z_Ds I J s) ∧ l < z_ln I s ∧ z_ln I s ≤ 12 ∧ d_wf (z_Ds I J s) l = true ∧ I 93 (12 * s + l) = z_n (z_hb I (12 * s + l)) ∧ z_hb I (12 * s + l) < z_ln I s := by
  obtain ⟨h1, h2, h3, h4, h5⟩ := z_wfW B.qW B.qL hs hw
  rw [z_wf_D I J] at hw
  rw [Bool.and_eq_true] at hw
  rcases B.pg hs with ⟨k, -⟩ | ⟨-, p, k1, k2⟩
  · rw [h1] at k; cases k
  · exact ⟨p, k1, k2, h2, h3, hw.2, h4, h5⟩
/-- the reference's SORT and TAKEN IN, in any heap that shows the same rows -/
theorem M_wsort (B : z_B S I J P K n.1) {S' : z_SH} {I1 : z_MI} {J1 : z_MJ} {P' : z_MP} {n' : Nat × Nat} (hS' : z_St S') (hP' : z_Pt P') (c : z_cg I J I1 J1) {s l : Nat} (hs : s < 24) (hw : z_wf I s l = true) :
    f_Mo_sortOf 83 (z_n s) (z_n l) (z_h S' I1 J1 P' n') = some (z_n (d_so (z_Ds I J s) l), z_h S' I1 J1 P' n') ∧ f_Mo_takenOf 83 (z_n s) (z_n l) (z_h S' I1 J1 P' n') = some (z_n (d_tk (z_Ds I J s) l), z_h S' I1 J1 P' n') ∧ f_Mo_husband 83 (z_n s) (z_n l) (z_h S' I1 J1 P' n') = some (z_n (12 * s + z_hb I (12 * s + l)), z_h S' I1 J1 P' n') := by
  obtain ⟨p, -, -, h1, h2, -, h3, h4⟩ := B.wife hs hw
  have e : I1 93 (12 * s + l) = z_n (z_hb I1 (12 * s + l)) := by rw [z_hb_c c, c.i _ rfl]; exact h3
  have hb : z_hb I1 (12 * s + l) < 12 := by rw [z_hb_c c]; omega
  refine ⟨?_, ?_, ?_⟩
  · rw [M_sortOf hS' hP' hs (by omega) e hb, z_so_c c, z_so_D]
  · rw [M_takenOf hS' hP' (z_lL_c c B.qL) hs (by omega) e hb, z_tk_c c, z_tk_D]
  · rw [M_husband hS' hP' hs (by omega) e, z_hb_c c]
theorem M_iw (B : z_B S I J P K n.1) {S' : z_SH} {I1 : z_MI} {J1 : z_MJ} {P' : z_MP} {n' : Nat × Nat} (hS' : z_St S') (hP' : z_Pt P') (c : z_cg I J I1 J1) {s l : Nat} (hs : s < 24) (hl : l ≤ 11) : f_Mo_isWife 83 (z_n s) (z_n l) (z_h S' I1 J1 P' n') = some (z_b (z_wf I s l = true), z_h S' I1 J1 P' n') := by
  rw [M_isWife hS' hP' (z_lL_c c B.qL) (z_lW_c c B.qW) hs hl, z_wf_c c]
set_option maxRecDepth 100000 in
set_option maxHeartbeats 4000000 in
theorem X_sort (B : z_B S I J P K n.1) (s l : Int32) : z_pr (f_Rs_sort 8 s l) (f_Mo_sort 83 s l) S I J P K n := by
  have hS := B.qS
  have hP := B.qP
  have m : z_mf I J (z_up I 83 0 (z_n 0)) J := z_mf.up rfl
  have c := m.cg
  rcases z_in s 23 (by omega) with ⟨x, hx, rfl⟩ | ho
  · rcases z_in l 11 (by omega) with ⟨y, hy, rfl⟩ | hlo
    · have iw := M_iw B hS hP c (n' := n) (s := x) (by omega) hy
      have pw := C_pow B (s := x) (by omega) hy
      by_cases hw : z_wf I x y = true
      · obtain ⟨p, h1, h2, h3, h4, h5, h6, h7⟩ := B.wife (s := x) (by omega) hw
        have e9 := (h2.2.2.2.1 y h3).1
        rw [if_pos h5] at e9
        refine z_pr.same (r := z_n (d_so (z_Ds I J x) y)) ?_ ?_ m
        · simp (disch := omega) only [f_Rs_sort, C_gat8 hS, pw, hw, h1, z_ps_r h2.2.1, e9, or_true, true_or, or_false, false_or, z_b_T, z_b_F, Bool.false_eq_true, Classical.not_not, decide_eq_true_eq, z_sq, Option.bind_some, z_lits, z_n_add, z_n_mul, z_lt, z_le, z_eq, z_ne1, z_1ne, z_lt1, z_1lt, z_ltT, z_ltF, z_leT, z_leF, z_eqF, z_b_0, z_b_1, ↓reduceIte, eq_self, not_true_eq_false, not_false_eq_true, and_true, true_and, and_false, false_and, Nat.add_zero, Nat.zero_add]
        · simp (disch := omega) only [f_Mo_sort, M_thr hS, z_ob (s_83 hS), iw, hw, (M_wsort B hS hP c (n' := n) (s := x) (by omega) hw).1, or_true, true_or, or_false, false_or, z_b_T, z_b_F, Bool.false_eq_true, Classical.not_not, decide_eq_true_eq, z_sq, Option.bind_some, z_lits, z_n_add, z_n_mul, z_lt, z_le, z_eq, z_ne1, z_1ne, z_lt1, z_1lt, z_ltT, z_ltF, z_leT, z_leF, z_eqF, z_b_0, z_b_1, ↓reduceIte, eq_self, not_true_eq_false, not_false_eq_true, and_true, true_and, and_false, false_and, Nat.add_zero, Nat.zero_add]
      · refine z_pr.same (r := -z_n 1) ?_ ?_ m
        · simp (disch := omega) only [f_Rs_sort, C_gat8 hS, pw, hw, or_true, true_or, or_false, false_or, z_b_T, z_b_F, Bool.false_eq_true, Classical.not_not, decide_eq_true_eq, z_sq, Option.bind_some, z_lits, z_n_add, z_n_mul, z_lt, z_le, z_eq, z_ne1, z_1ne, z_lt1, z_1lt, z_ltT, z_ltF, z_leT, z_leF, z_eqF, z_b_0, z_b_1, ↓reduceIte, eq_self, not_true_eq_false, not_false_eq_true, and_true, true_and, and_false, false_and, Nat.add_zero, Nat.zero_add]
        · simp (disch := omega) only [f_Mo_sort, M_thr hS, z_ob (s_83 hS), iw, hw, or_true, true_or, or_false, false_or, z_b_T, z_b_F, Bool.false_eq_true, Classical.not_not, decide_eq_true_eq, z_sq, Option.bind_some, z_lits, z_n_add, z_n_mul, z_lt, z_le, z_eq, z_ne1, z_1ne, z_lt1, z_1lt, z_ltT, z_ltF, z_leT, z_leF, z_eqF, z_b_0, z_b_1, ↓reduceIte, eq_self, not_true_eq_false, not_false_eq_true, and_true, true_and, and_false, false_and, Nat.add_zero, Nat.zero_add]
    · refine z_pr.same (r := -z_n 1) ?_ ?_ m
      · simp (disch := omega) only [f_Rs_sort, C_gat8 hS, C_pow_o B (s := x) (by omega) hlo, or_true, true_or, or_false, false_or, z_b_T, z_b_F, Bool.false_eq_true, Classical.not_not, decide_eq_true_eq, z_sq, Option.bind_some, z_lits, z_n_add, z_n_mul, z_lt, z_le, z_eq, z_ne1, z_1ne, z_lt1, z_1lt, z_ltT, z_ltF, z_leT, z_leF, z_eqF, z_b_0, z_b_1, ↓reduceIte, eq_self, not_true_eq_false, not_false_eq_true, and_true, true_and, and_false, false_and, Nat.add_zero, Nat.zero_add]
      · simp (disch := omega) only [f_Mo_sort, M_thr hS, z_ob (s_83 hS), M_isWife_o hS hP (z_lL_c c B.qL) (s := x) (by omega) hlo, or_true, true_or, or_false, false_or, z_b_T, z_b_F, Bool.false_eq_true, Classical.not_not, decide_eq_true_eq, z_sq, Option.bind_some, z_lits, z_n_add, z_n_mul, z_lt, z_le, z_eq, z_ne1, z_1ne, z_lt1, z_1lt, z_ltT, z_ltF, z_leT, z_leF, z_eqF, z_b_0, z_b_1, ↓reduceIte, eq_self, not_true_eq_false, not_false_eq_true, and_true, true_and, and_false, false_and, Nat.add_zero, Nat.zero_add]
  · refine z_pr.same (r := -z_n 1) ?_ ?_ m
    · simp (disch := omega) only [f_Rs_sort, C_gat8 hS, C_pow_oo hS hP ho, or_true, true_or, or_false, false_or, z_b_T, z_b_F, Bool.false_eq_true, Classical.not_not, decide_eq_true_eq, z_sq, Option.bind_some, z_lits, z_n_add, z_n_mul, z_lt, z_le, z_eq, z_ne1, z_1ne, z_lt1, z_1lt, z_ltT, z_ltF, z_leT, z_leF, z_eqF, z_b_0, z_b_1, ↓reduceIte, eq_self, not_true_eq_false, not_false_eq_true, and_true, true_and, and_false, false_and, Nat.add_zero, Nat.zero_add]
    · simp (disch := omega) only [f_Mo_sort, M_thr hS, z_ob (s_83 hS), M_isWife_oo hS hP ho, or_true, true_or, or_false, false_or, z_b_T, z_b_F, Bool.false_eq_true, Classical.not_not, decide_eq_true_eq, z_sq, Option.bind_some, z_lits, z_n_add, z_n_mul, z_lt, z_le, z_eq, z_ne1, z_1ne, z_lt1, z_1lt, z_ltT, z_ltF, z_leT, z_leF, z_eqF, z_b_0, z_b_1, ↓reduceIte, eq_self, not_true_eq_false, not_false_eq_true, and_true, true_and, and_false, false_and, Nat.add_zero, Nat.zero_add]
set_option maxRecDepth 100000 in
set_option maxHeartbeats 4000000 in
theorem X_taken (B : z_B S I J P K n.1) (s l : Int32) : z_pr (f_Rs_taken 8 s l) (f_Mo_taken 83 s l) S I J P K n := by
  have hS := B.qS
  have hP := B.qP
  have m : z_mf I J (z_up I 83 0 (z_n 0)) J := z_mf.up rfl
  have c := m.cg
  rcases z_in s 23 (by omega) with ⟨x, hx, rfl⟩ | ho
  · rcases z_in l 11 (by omega) with ⟨y, hy, rfl⟩ | hlo
    · have iw := M_iw B hS hP c (n' := n) (s := x) (by omega) hy
      have pw := C_pow B (s := x) (by omega) hy
      by_cases hw : z_wf I x y = true
      · obtain ⟨p, h1, h2, h3, h4, h5, h6, h7⟩ := B.wife (s := x) (by omega) hw
        have e9 := (h2.2.2.2.1 y h3).2
        have ⟨q1, q2, q3⟩ := M_wsort B hS hP c (n' := n) (s := x) (by omega) hw
        have hle := d_so_le (z_Ds I J x) y
        refine z_pr.same (r := if d_wf (z_Ds I J x) y = true ∧ (d_so (z_Ds I J x) y = 0 ∨ d_so (z_Ds I J x) y = 2) then z_n (d_tk (z_Ds I J x) y) else -z_n 1) ?_ ?_ m
        · simp (disch := omega) only [f_Rs_taken, C_gat8 hS, pw, hw, h1, z_ps_r h2.2.1, e9, or_true, true_or, or_false, false_or, z_b_T, z_b_F, Bool.false_eq_true, Classical.not_not, decide_eq_true_eq, z_sq, Option.bind_some, z_lits, z_n_add, z_n_mul, z_lt, z_le, z_eq, z_ne1, z_1ne, z_lt1, z_1lt, z_ltT, z_ltF, z_leT, z_leF, z_eqF, z_b_0, z_b_1, ↓reduceIte, eq_self, not_true_eq_false, not_false_eq_true, and_true, true_and, and_false, false_and, Nat.add_zero, Nat.zero_add]
        · by_cases k1 : d_so (z_Ds I J x) y = 0
          · simp (disch := omega) only [f_Mo_taken, M_thr hS, z_ob (s_83 hS), iw, hw, q1, q2, h5, k1, or_true, true_or, or_false, false_or, z_b_T, z_b_F, Bool.false_eq_true, Classical.not_not, decide_eq_true_eq, z_sq, Option.bind_some, z_lits, z_n_add, z_n_mul, z_lt, z_le, z_eq, z_ne1, z_1ne, z_lt1, z_1lt, z_ltT, z_ltF, z_leT, z_leF, z_eqF, z_b_0, z_b_1, ↓reduceIte, eq_self, not_true_eq_false, not_false_eq_true, and_true, true_and, and_false, false_and, Nat.add_zero, Nat.zero_add]
          · by_cases k2 : d_so (z_Ds I J x) y = 2
            · simp (disch := omega) only [f_Mo_taken, M_thr hS, z_ob (s_83 hS), iw, hw, q1, q2, h5, k2, or_true, true_or, or_false, false_or, z_b_T, z_b_F, Bool.false_eq_true, Classical.not_not, decide_eq_true_eq, z_sq, Option.bind_some, z_lits, z_n_add, z_n_mul, z_lt, z_le, z_eq, z_ne1, z_1ne, z_lt1, z_1lt, z_ltT, z_ltF, z_leT, z_leF, z_eqF, z_b_0, z_b_1, ↓reduceIte, eq_self, not_true_eq_false, not_false_eq_true, and_true, true_and, and_false, false_and, Nat.add_zero, Nat.zero_add]
            · simp (disch := omega) only [f_Mo_taken, M_thr hS, z_ob (s_83 hS), iw, hw, q1, q2, h5, k1, k2, or_true, true_or, or_false, false_or, z_b_T, z_b_F, Bool.false_eq_true, Classical.not_not, decide_eq_true_eq, z_sq, Option.bind_some, z_lits, z_n_add, z_n_mul, z_lt, z_le, z_eq, z_ne1, z_1ne, z_lt1, z_1lt, z_ltT, z_ltF, z_leT, z_leF, z_eqF, z_b_0, z_b_1, ↓reduceIte, eq_self, not_true_eq_false, not_false_eq_true, and_true, true_and, and_false, false_and, Nat.add_zero, Nat.zero_add]
      · refine z_pr.same (r := -z_n 1) ?_ ?_ m
        · simp (disch := omega) only [f_Rs_taken, C_gat8 hS, pw, hw, or_true, true_or, or_false, false_or, z_b_T, z_b_F, Bool.false_eq_true, Classical.not_not, decide_eq_true_eq, z_sq, Option.bind_some, z_lits, z_n_add, z_n_mul, z_lt, z_le, z_eq, z_ne1, z_1ne, z_lt1, z_1lt, z_ltT, z_ltF, z_leT, z_leF, z_eqF, z_b_0, z_b_1, ↓reduceIte, eq_self, not_true_eq_false, not_false_eq_true, and_true, true_and, and_false, false_and, Nat.add_zero, Nat.zero_add]
        · simp (disch := omega) only [f_Mo_taken, M_thr hS, z_ob (s_83 hS), iw, hw, or_true, true_or, or_false, false_or, z_b_T, z_b_F, Bool.false_eq_true, Classical.not_not, decide_eq_true_eq, z_sq, Option.bind_some, z_lits, z_n_add, z_n_mul, z_lt, z_le, z_eq, z_ne1, z_1ne, z_lt1, z_1lt, z_ltT, z_ltF, z_leT, z_leF, z_eqF, z_b_0, z_b_1, ↓reduceIte, eq_self, not_true_eq_false, not_false_eq_true, and_true, true_and, and_false, false_and, Nat.add_zero, Nat.zero_add]
    · refine z_pr.same (r := -z_n 1) ?_ ?_ m
      · simp (disch := omega) only [f_Rs_taken, C_gat8 hS, C_pow_o B (s := x) (by omega) hlo, or_true, true_or, or_false, false_or, z_b_T, z_b_F, Bool.false_eq_true, Classical.not_not, decide_eq_true_eq, z_sq, Option.bind_some, z_lits, z_n_add, z_n_mul, z_lt, z_le, z_eq, z_ne1, z_1ne, z_lt1, z_1lt, z_ltT, z_ltF, z_leT, z_leF, z_eqF, z_b_0, z_b_1, ↓reduceIte, eq_self, not_true_eq_false, not_false_eq_true, and_true, true_and, and_false, false_and, Nat.add_zero, Nat.zero_add]
      · simp (disch := omega) only [f_Mo_taken, M_thr hS, z_ob (s_83 hS), M_isWife_o hS hP (z_lL_c c B.qL) (s := x) (by omega) hlo, or_true, true_or, or_false, false_or, z_b_T, z_b_F, Bool.false_eq_true, Classical.not_not, decide_eq_true_eq, z_sq, Option.bind_some, z_lits, z_n_add, z_n_mul, z_lt, z_le, z_eq, z_ne1, z_1ne, z_lt1, z_1lt, z_ltT, z_ltF, z_leT, z_leF, z_eqF, z_b_0, z_b_1, ↓reduceIte, eq_self, not_true_eq_false, not_false_eq_true, and_true, true_and, and_false, false_and, Nat.add_zero, Nat.zero_add]
  · refine z_pr.same (r := -z_n 1) ?_ ?_ m
    · simp (disch := omega) only [f_Rs_taken, C_gat8 hS, C_pow_oo hS hP ho, or_true, true_or, or_false, false_or, z_b_T, z_b_F, Bool.false_eq_true, Classical.not_not, decide_eq_true_eq, z_sq, Option.bind_some, z_lits, z_n_add, z_n_mul, z_lt, z_le, z_eq, z_ne1, z_1ne, z_lt1, z_1lt, z_ltT, z_ltF, z_leT, z_leF, z_eqF, z_b_0, z_b_1, ↓reduceIte, eq_self, not_true_eq_false, not_false_eq_true, and_true, true_and, and_false, false_and, Nat.add_zero, Nat.zero_add]
    · simp (disch := omega) only [f_Mo_taken, M_thr hS, z_ob (s_83 hS), M_isWife_oo hS hP ho, or_true, true_or, or_false, false_or, z_b_T, z_b_F, Bool.false_eq_true, Classical.not_not, decide_eq_true_eq, z_sq, Option.bind_some, z_lits, z_n_add, z_n_mul, z_lt, z_le, z_eq, z_ne1, z_1ne, z_lt1, z_1lt, z_ltT, z_ltF, z_leT, z_leF, z_eqF, z_b_0, z_b_1, ↓reduceIte, eq_self, not_true_eq_false, not_false_eq_true, and_true, true_and, and_false, false_and, Nat.add_zero, Nat.zero_add]
end
