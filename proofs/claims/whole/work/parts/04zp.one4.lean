/-! ONE: the two answers. -/
section
variable {S : z_SH} {I : z_MI} {J : z_MJ} {P : z_MP} {K : Nat → Bool} {n : Nat × Nat}
set_option maxRecDepth 100000 in
set_option maxHeartbeats 4000000 in
theorem C_one (B : z_B S I J P K n.1) {s t a : Nat} (hs : s < 24) (ht : t < 24) (ha : a ≤ 11) : f_Sf_lineThatIsOne 13 (z_n s) (z_n a) (z_n t) (z_h S I J P n) = some ((if z_li I s a = true then u_one I J s t a else -z_n 1), z_h S I J P n) := by
  have hS := B.qS
  have hP := B.qP
  have hob := fun I J => z_ob (I := I) (J := J) (P := P) (n := n) (s_13 hS)
  have p1 := C_pageOf (I := I) (J := J) (n := n) hS hP hs
  have p2 := C_pageOf (I := I) (J := J) (n := n) hS hP ht
  obtain ⟨_, _, c1, _⟩ := B.qC.1 s hs
  obtain ⟨_, _, c2, _⟩ := B.qC.1 t ht
  have cs := C_canShare B hs ht
  have e : (z_Ds I J s).1 = z_ln I s := rfl
  unfold f_Sf_lineThatIsOne z_li u_one
  rw [hob, Option.bind_some, p1, z_sq, hob, Option.bind_some, p2, z_sq]
  rcases B.pg hs with ⟨h1, h2⟩ | ⟨h1, p, h2, h3⟩
  · rw [h2]; simp (disch := omega) only [h1, Bool.false_and, Bool.false_eq_true, or_true, true_or, or_false, false_or, z_b_T, z_b_F, Bool.false_eq_true, Classical.not_not, decide_eq_true_eq, z_sq, Option.bind_some, z_lits, z_n_add, z_n_mul, z_lt, z_le, z_eq, z_ne1, z_1ne, z_lt1, z_1lt, z_ltT, z_ltF, z_leT, z_leF, z_eqF, z_b_0, z_b_1, ↓reduceIte, eq_self, not_true_eq_false, not_false_eq_true, and_true, true_and, and_false, false_and, Nat.add_zero, Nat.zero_add]
  · rw [h2]
    rcases B.pg ht with ⟨k1, k2⟩ | ⟨k1, q, k2, k3⟩
    · rw [k2]
      simp only [k1, Bool.false_eq_true, false_and, ↓reduceIte, ite_self]
      rfl
    · rw [k2]
      have has := C_has (J := J) (n := n) h3.2.1 h3.size (B.qD hs).1 (l := a) ha
      rw [e] at has
      by_cases hl : a < z_ln I s
      · have m := C_match (n := n) hS hP hs ht h3.2.1 k3.2.1 h3.2.2.1 k3.2.2.1 (a := a) hl (B.qD hs).1 (B.qD ht)
        rw [c1, c2] at m
        have ob := (z_ps_r h3.2.1).1
        simp only [h1, k1, true_and] at cs
        by_cases hst : s = t
        · subst hst
          simp (disch := omega) only [ob, has, hl, hob, cs, h1, k1, ite_self, or_true, true_or, or_false, false_or, z_b_T, z_b_F, Bool.false_eq_true, Classical.not_not, decide_eq_true_eq, z_sq, Option.bind_some, z_lits, z_n_add, z_n_mul, z_lt, z_le, z_eq, z_ne1, z_1ne, z_lt1, z_1lt, z_ltT, z_ltF, z_leT, z_leF, z_eqF, z_b_0, z_b_1, ↓reduceIte, eq_self, not_true_eq_false, not_false_eq_true, and_true, true_and, and_false, false_and, Nat.add_zero, Nat.zero_add]
        rcases z_tf (I 87 s = I 87 t) with e1 | e1 <;> rcases z_tf (I 88 s = I 88 t) with e2 | e2 <;> simp (disch := omega) only [ob, has, hl, hob, cs, m, h1, k1, e1, e2, hst, Bool.and_true, decide_true, or_true, true_or, or_false, false_or, z_b_T, z_b_F, Bool.false_eq_true, Classical.not_not, decide_eq_true_eq, z_sq, Option.bind_some, z_lits, z_n_add, z_n_mul, z_lt, z_le, z_eq, z_ne1, z_1ne, z_lt1, z_1lt, z_ltT, z_ltF, z_leT, z_leF, z_eqF, z_b_0, z_b_1, ↓reduceIte, eq_self, not_true_eq_false, not_false_eq_true, and_true, true_and, and_false, false_and, Nat.add_zero, Nat.zero_add]
      · simp (disch := omega) only [(z_ps_r h3.2.1).1, has, hl, h1, decide_false, Bool.and_false, Bool.false_eq_true, or_true, true_or, or_false, false_or, z_b_T, z_b_F, Bool.false_eq_true, Classical.not_not, decide_eq_true_eq, z_sq, Option.bind_some, z_lits, z_n_add, z_n_mul, z_lt, z_le, z_eq, z_ne1, z_1ne, z_lt1, z_1lt, z_ltT, z_ltF, z_leT, z_leF, z_eqF, z_b_0, z_b_1, ↓reduceIte, eq_self, not_true_eq_false, not_false_eq_true, and_true, true_and, and_false, false_and, Nat.add_zero, Nat.zero_add]
theorem u_one_self (s a : Nat) : u_one I J s s a = -z_n 1 := by
  unfold u_one
  rw [if_neg (fun e => e.2.1 rfl)]
theorem u_one_c {I' : z_MI} {J' : z_MJ} (c : z_cg I J I' J') (s t a : Nat) : u_one I' J' s t a = u_one I J s t a := by
  unfold u_one
  rw [z_th_c c, z_Ds_c c, z_Ds_c c, c.i 87 rfl, c.i 87 rfl, c.i 88 rfl, c.i 88 rfl]
set_option maxRecDepth 100000 in
set_option maxHeartbeats 4000000 in
theorem X_one (B : z_B S I J P K n.1) (s a t : Int32) : z_pr (f_Rs_one 8 s a t) (f_Mo_one 83 s a t) S I J P K n := by
  have hS := B.qS
  have hP := B.qP
  have m : z_mf I J (z_up I 83 0 (z_n 0)) J := z_mf.up rfl
  have c := m.cg
  have e8 : q_gr (q_gf (z_h S I J P n) 0 8 3) = some 13 := z_gr (s_8 hS) rfl (p_8_3 hP)
  have o13 := z_ob (I := I) (J := J) (P := P) (n := n) (s_13 hS)
  have hL : z_lL (z_up I 83 0 (z_n 0)) := z_lL_c c B.qL
  rcases z_in s 23 (by omega) with ⟨x, hx, rfl⟩ | hs
  rotate_left
  · refine z_pr.same (r := -z_n 1) ?_ ?_ m
    · unfold f_Rs_one f_Sf_lineThatIsOne
      rw [e8, Option.bind_some, o13, Option.bind_some, Option.bind_some, C_pageOf_o hs, z_sq, o13, Option.bind_some]
      rcases z_in t 23 (by omega) with ⟨z, hz, rfl⟩ | ht
      · rw [C_pageOf hS hP (by omega), z_sq]; rfl
      · rw [C_pageOf_o ht, z_sq]; rfl
    · simp (disch := omega) only [f_Mo_one, M_thr hS, z_ob (s_83 hS), M_isLine_oo hS hP hs, or_true, true_or, or_false, false_or, z_b_T, z_b_F, Bool.false_eq_true, Classical.not_not, decide_eq_true_eq, z_sq, Option.bind_some, z_lits, z_n_add, z_n_mul, z_lt, z_le, z_eq, z_ne1, z_1ne, z_lt1, z_1lt, z_ltT, z_ltF, z_leT, z_leF, z_eqF, z_b_0, z_b_1, ↓reduceIte, eq_self, not_true_eq_false, not_false_eq_true, and_true, true_and, and_false, false_and, Nat.add_zero, Nat.zero_add]
  have l1 := fun l hl => M_isLine (n := n) (J := J) hS hP hL (s := x) (l := l) (by omega) hl
  have l2 := fun l hl => M_isLine_o (n := n) (J := J) hS hP hL (s := x) (l := l) (by omega) hl
  simp only [z_th_c c, z_ln_c c] at l1
  have D := B.qD (s := x) (by omega)
  have D1 : z_ln I x ≤ 12 := D.1
  have D' : d_ok (z_Ds (z_up I 83 0 (z_n 0)) J x) := by rw [z_Ds_c c]; exact D
  have p1 := C_pageOf (I := I) (J := J) (n := n) hS hP (s := x) (by omega)
  rcases z_in a 11 (by omega) with ⟨y, hy, rfl⟩ | ha
  rotate_left
  · refine z_pr.same (r := -z_n 1) ?_ ?_ m
    · have q2 : ∃ o, f_Sf_pageOf 13 t (z_h S I J P n) = some (o, z_h S I J P n) := by
        rcases z_in t 23 (by omega) with ⟨z, hz, rfl⟩ | ht
        · exact ⟨_, C_pageOf hS hP (by omega)⟩
        · exact ⟨_, C_pageOf_o ht⟩
      obtain ⟨o, q2⟩ := q2
      unfold f_Rs_one f_Sf_lineThatIsOne
      rw [e8, Option.bind_some, o13, Option.bind_some, Option.bind_some, p1, z_sq, o13, Option.bind_some, q2, z_sq]
      rcases B.pg (s := x) (by omega) with ⟨h5, h6⟩ | ⟨h5, p, h6, h7⟩
      · rw [h6]; rfl
      · rw [h6]
        have has := C_has_o (J := J) (n := n) h7.2.1 h7.size D.1 ha
        cases o with
        | none => rfl
        | some q =>
          simp (disch := omega) only [z_ps_r h7.2.1, has, or_true, true_or, or_false, false_or, z_b_T, z_b_F, Bool.false_eq_true, Classical.not_not, decide_eq_true_eq, z_sq, Option.bind_some, z_lits, z_n_add, z_n_mul, z_lt, z_le, z_eq, z_ne1, z_1ne, z_lt1, z_1lt, z_ltT, z_ltF, z_leT, z_leF, z_eqF, z_b_0, z_b_1, ↓reduceIte, eq_self, not_true_eq_false, not_false_eq_true, and_true, true_and, and_false, false_and, Nat.add_zero, Nat.zero_add]
    · simp (disch := omega) only [f_Mo_one, M_thr hS, z_ob (s_83 hS), l2 a ha, or_true, true_or, or_false, false_or, z_b_T, z_b_F, Bool.false_eq_true, Classical.not_not, decide_eq_true_eq, z_sq, Option.bind_some, z_lits, z_n_add, z_n_mul, z_lt, z_le, z_eq, z_ne1, z_1ne, z_lt1, z_1lt, z_ltT, z_ltF, z_leT, z_leF, z_eqF, z_b_0, z_b_1, ↓reduceIte, eq_self, not_true_eq_false, not_false_eq_true, and_true, true_and, and_false, false_and, Nat.add_zero, Nat.zero_add]
  rcases z_in t 23 (by omega) with ⟨z, hz, rfl⟩ | ht
  · have co := C_one B (s := x) (t := z) (a := y) (by omega) (by omega) hy
    refine z_pr.same (r := if z_li I x y = true then u_one I J x z y else -z_n 1) ?_ ?_ m
    · simp (disch := omega) only [f_Rs_one, e8, z_ob (s_13 hS), co, or_true, true_or, or_false, false_or, z_b_T, z_b_F, Bool.false_eq_true, Classical.not_not, decide_eq_true_eq, z_sq, Option.bind_some, z_lits, z_n_add, z_n_mul, z_lt, z_le, z_eq, z_ne1, z_1ne, z_lt1, z_1lt, z_ltT, z_ltF, z_leT, z_leF, z_eqF, z_b_0, z_b_1, ↓reduceIte, eq_self, not_true_eq_false, not_false_eq_true, and_true, true_and, and_false, false_and, Nat.add_zero, Nat.zero_add]
    · unfold z_li
      rcases z_tf (z_th I x = true) with h1 | h1 <;> rcases z_tf (y < z_ln I x) with h2 | h2
      · have mo := M_oneOf (I := z_up I 83 0 (z_n 0)) (J := J) (n := n) hS hP hL (s := x) (t := z) (a := y) (by omega) (by omega) D' (by rw [z_Ds_c c]; exact of_eq_true h2)
        rw [u_one_c c] at mo
        simp (disch := omega) only [f_Mo_one, M_thr hS, z_ob (s_83 hS), l1 y hy, h1, h2, M_win, mo, Bool.and_eq_true, or_true, true_or, or_false, false_or, z_b_T, z_b_F, Bool.false_eq_true, Classical.not_not, decide_eq_true_eq, z_sq, Option.bind_some, z_lits, z_n_add, z_n_mul, z_lt, z_le, z_eq, z_ne1, z_1ne, z_lt1, z_1lt, z_ltT, z_ltF, z_leT, z_leF, z_eqF, z_b_0, z_b_1, ↓reduceIte, eq_self, not_true_eq_false, not_false_eq_true, and_true, true_and, and_false, false_and, Nat.add_zero, Nat.zero_add]
      all_goals simp (disch := omega) only [f_Mo_one, M_thr hS, z_ob (s_83 hS), l1 y hy, h1, h2, Bool.and_eq_true, or_true, true_or, or_false, false_or, z_b_T, z_b_F, Bool.false_eq_true, Classical.not_not, decide_eq_true_eq, z_sq, Option.bind_some, z_lits, z_n_add, z_n_mul, z_lt, z_le, z_eq, z_ne1, z_1ne, z_lt1, z_1lt, z_ltT, z_ltF, z_leT, z_leF, z_eqF, z_b_0, z_b_1, ↓reduceIte, eq_self, not_true_eq_false, not_false_eq_true, and_true, true_and, and_false, false_and, Nat.add_zero, Nat.zero_add]
  · refine z_pr.same (r := -z_n 1) ?_ ?_ m
    · unfold f_Rs_one f_Sf_lineThatIsOne
      rw [e8, Option.bind_some, o13, Option.bind_some, Option.bind_some, p1, z_sq, o13, Option.bind_some, C_pageOf_o ht, z_sq]
      rcases B.pg (s := x) (by omega) with ⟨h5, h6⟩ | ⟨h5, p, h6, h7⟩
      · rw [h6]; rfl
      · rw [h6]; rfl
    · rcases z_tf (z_th I x = true) with h1 | h1 <;> rcases z_tf (y < z_ln I x) with h2 | h2
      · have mo := M_oneOf (I := z_up I 83 0 (z_n 0)) (J := J) (n := n) hS hP hL (s := x) (t := x) (a := y) (by omega) (by omega) D' (by rw [z_Ds_c c]; exact of_eq_true h2)
        rw [u_one_self] at mo
        simp (disch := omega) only [f_Mo_one, M_thr hS, z_ob (s_83 hS), l1 y hy, h1, h2, M_wout ht, mo, or_true, true_or, or_false, false_or, z_b_T, z_b_F, Bool.false_eq_true, Classical.not_not, decide_eq_true_eq, z_sq, Option.bind_some, z_lits, z_n_add, z_n_mul, z_lt, z_le, z_eq, z_ne1, z_1ne, z_lt1, z_1lt, z_ltT, z_ltF, z_leT, z_leF, z_eqF, z_b_0, z_b_1, ↓reduceIte, eq_self, not_true_eq_false, not_false_eq_true, and_true, true_and, and_false, false_and, Nat.add_zero, Nat.zero_add]
      all_goals simp (disch := omega) only [f_Mo_one, M_thr hS, z_ob (s_83 hS), l1 y hy, h1, h2, or_true, true_or, or_false, false_or, z_b_T, z_b_F, Bool.false_eq_true, Classical.not_not, decide_eq_true_eq, z_sq, Option.bind_some, z_lits, z_n_add, z_n_mul, z_lt, z_le, z_eq, z_ne1, z_1ne, z_lt1, z_1lt, z_ltT, z_ltF, z_leT, z_leF, z_eqF, z_b_0, z_b_1, ↓reduceIte, eq_self, not_true_eq_false, not_false_eq_true, and_true, true_and, and_false, false_and, Nat.add_zero, Nat.zero_add]
end
