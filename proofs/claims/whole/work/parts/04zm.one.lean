/-! ONE: whether two lines are one person. -/
def d_fb (y : Int32) (D : z_D) (l : Nat) : Int32 := z_n 14 * y - D.2.1 1 l - z_n (z_sl (D.2.1 1 l))
def d_lb (y : Int32) (D : z_D) (l : Nat) : Int32 := z_n 14 * y - D.2.1 1 l + z_n (z_sl (D.2.1 1 l))
theorem z_wd_sl (x : Int32) : z_n (z_wd x) / z_n 2 = z_n (z_sl x) := by
  unfold z_sl z_wd
  split <;> rfl
section
variable {S : z_SH} {I : z_MI} {J : z_MJ} {P : z_MP} {K : Nat → Bool} {n : Nat × Nat}
set_option maxRecDepth 100000 in
set_option maxHeartbeats 4000000 in
theorem C_fb (hS : z_St S) (hP : z_Pt P) {s p l : Nat} {D : z_D} (hs : s < 24) (h : z_ps S P p) (hd : z_pd I J p D) (hl : l < D.1) (hD : D.1 ≤ 12) : f_Sf_firstBorn 13 (z_n s) p (z_n l) (z_h S I J P n) = some (d_fb (I 16 s) D l, z_h S I J P n) ∧ f_Sf_lastBorn 13 (z_n s) p (z_n l) (z_h S I J P n) = some (d_lb (I 16 s) D l, z_h S I J P n) := by
  have r1 := z_ps_r h
  have e1 := hd.ag hl
  have c := C_slack (n := n) h hd hl hD
  refine ⟨?_, ?_⟩
  · simp (disch := omega) only [f_Sf_firstBorn, f_Sf_yearOf, z_Shr hS hP, r1, e1, c, d_fb, or_true, true_or, or_false, false_or, z_b_T, z_b_F, Bool.false_eq_true, Classical.not_not, decide_eq_true_eq, z_sq, Option.bind_some, z_lits, z_n_add, z_n_mul, z_lt, z_le, z_eq, z_ne1, z_1ne, z_lt1, z_1lt, z_ltT, z_ltF, z_leT, z_leF, z_eqF, z_b_0, z_b_1, ↓reduceIte, eq_self, not_true_eq_false, not_false_eq_true, and_true, true_and, and_false, false_and, Nat.add_zero, Nat.zero_add]
  · simp (disch := omega) only [f_Sf_lastBorn, f_Sf_yearOf, z_Shr hS hP, r1, e1, c, d_lb, or_true, true_or, or_false, false_or, z_b_T, z_b_F, Bool.false_eq_true, Classical.not_not, decide_eq_true_eq, z_sq, Option.bind_some, z_lits, z_n_add, z_n_mul, z_lt, z_le, z_eq, z_ne1, z_1ne, z_lt1, z_1lt, z_ltT, z_ltF, z_leT, z_leF, z_eqF, z_b_0, z_b_1, ↓reduceIte, eq_self, not_true_eq_false, not_false_eq_true, and_true, true_and, and_false, false_and, Nat.add_zero, Nat.zero_add]
set_option maxRecDepth 100000 in
set_option maxHeartbeats 4000000 in
theorem M_fb {S : z_SH} {I : z_MI} {J : z_MJ} {P : z_MP} {n : Nat × Nat} (hS : z_St S) (hP : z_Pt P) {s l : Nat} (hs : s < 24) (hl : l < 12) : f_Mo_firstBorn 83 (z_n s) (z_n l) (z_h S I J P n) = some (d_fb (I 88 s) (z_Ds I J s) l, z_h S I J P n) ∧ f_Mo_lastBorn 83 (z_n s) (z_n l) (z_h S I J P n) = some (d_lb (I 88 s) (z_Ds I J s) l, z_h S I J P n) := by
  have e : (z_Ds I J s).2.1 1 l = I 92 (12 * s + l) := rfl
  refine ⟨?_, ?_⟩
  · simp (disch := omega) only [f_Mo_firstBorn, z_Mr hS hP, M_wide, z_wd_sl, d_fb, e, or_true, true_or, or_false, false_or, z_b_T, z_b_F, Bool.false_eq_true, Classical.not_not, decide_eq_true_eq, z_sq, Option.bind_some, z_lits, z_n_add, z_n_mul, z_lt, z_le, z_eq, z_ne1, z_1ne, z_lt1, z_1lt, z_ltT, z_ltF, z_leT, z_leF, z_eqF, z_b_0, z_b_1, ↓reduceIte, eq_self, not_true_eq_false, not_false_eq_true, and_true, true_and, and_false, false_and, Nat.add_zero, Nat.zero_add]
  · simp (disch := omega) only [f_Mo_lastBorn, z_Mr hS hP, M_wide, z_wd_sl, d_lb, e, or_true, true_or, or_false, false_or, z_b_T, z_b_F, Bool.false_eq_true, Classical.not_not, decide_eq_true_eq, z_sq, Option.bind_some, z_lits, z_n_add, z_n_mul, z_lt, z_le, z_eq, z_ne1, z_1ne, z_lt1, z_1lt, z_ltT, z_ltF, z_leT, z_leF, z_eqF, z_b_0, z_b_1, ↓reduceIte, eq_self, not_true_eq_false, not_false_eq_true, and_true, true_and, and_false, false_and, Nat.add_zero, Nat.zero_add]
end
