/-! ONE: the two answers. -/
section
variable {S : z_SH} {I : z_MI} {J : z_MJ} {P : z_MP} {K : Nat → Bool} {n : Nat × Nat}
set_option maxRecDepth 100000 in
set_option maxHeartbeats 4000000 in
theorem C_one (B : z_B S I J P K n.1) {s t a : Nat} (hs : s < 24) (ht : t < 24) (ha : a ≤ 11) : f_Sf_lineThatIsOne 13 (z_n s) (z_n a) (z_n t) (z_h S I J P n) = some ((if z_li I s a = true then u_one I J s t a else -z_n 1), z_h S I J P n) := by
  have hS := B.qS
  have hP := B.qP
  have hob := fun I J => z_ob (I := I) (J := J) (P := P) (n := n) (s_13 hS)
  have p1 := C_pageOf (I := I) (J := J) (n := n) hS hP hs
  have p2 := C_pageOf (I := I) (J := J) (n := n) hS hP ht
  obtain ⟨_, _, c1, _⟩ := B.qC.1 s hs
  obtain ⟨_, _, c2, _⟩ := B.qC.1 t ht
  have cs := C_canShare B hs ht
  have e : (z_Ds I J s).1 = z_ln I s := rfl
  unfold f_Sf_lineThatIsOne z_li u_one
  rw [hob, Option.bind_some, p1, z_sq, hob, Option.bind_some, p2, z_sq]
  rcases B.pg hs with ⟨h1, h2⟩ | ⟨h1, p, h2, h3⟩
  · rw [h2]; simp (disch := omega) only [h1, Bool.false_and, Bool.false_eq_true, or_true, true_or, or_false, false_or, z_b_T, z_b_F, Bool.false_eq_true, Classical.not_not, decide_eq_true_eq, z_sq, Option.bind_some, z_lits, z_n_add, z_n_mul, z_lt, z_le, z_eq, z_ne1, z_1ne, z_lt1, z_1lt, z_ltT, z_ltF, z_leT, z_leF, z_eqF, z_b_0, z_b_1, ↓reduceIte, eq_self, not_true_eq_false, not_false_eq_true, and_true, true_and, and_false, false_and, Nat.add_zero, Nat.zero_add]
  · rw [h2]
    rcases B.pg ht with ⟨k1, k2⟩ | ⟨k1, q, k2, k3⟩
    · rw [k2]
      simp only [k1, Bool.false_eq_true, false_and, ↓reduceIte, ite_self]
      rfl
    · rw [k2]
      have has := C_has (J := J) (n := n) h3.2.1 h3.size (B.qD hs).1 (l := a) ha
      rw [e] at has
      by_cases hl : a < z_ln I s
      · have m := C_match (n := n) hS hP hs ht h3.2.1 k3.2.1 h3.2.2.1 k3.2.2.1 (a := a) hl (B.qD hs).1 (B.qD ht)
        rw [c1, c2] at m
        have ob := (z_ps_r h3.2.1).1
        simp only [h1, k1, true_and] at cs
        by_cases hst : s = t
        · subst hst
          simp (disch := omega) only [ob, has, hl, hob, cs, h1, k1, ite_self, or_true, true_or, or_false, false_or, z_b_T, z_b_F, Bool.false_eq_true, Classical.not_not, decide_eq_true_eq, z_sq, Option.bind_some, z_lits, z_n_add, z_n_mul, z_lt, z_le, z_eq, z_ne1, z_1ne, z_lt1, z_1lt, z_ltT, z_ltF, z_leT, z_leF, z_eqF, z_b_0, z_b_1, ↓reduceIte, eq_self, not_true_eq_false, not_false_eq_true, and_true, true_and, and_false, false_and, Nat.add_zero, Nat.zero_add]
        rcases z_tf (I 87 s = I 87 t) with e1 | e1 <;> rcases z_tf (I 88 s = I 88 t) with e2 | e2 <;> simp (disch := omega) only [ob, has, hl, hob, cs, m, h1, k1, e1, e2, hst, Bool.and_true, decide_true, or_true, true_or, or_false, false_or, z_b_T, z_b_F, Bool.false_eq_true, Classical.not_not, decide_eq_true_eq, z_sq, Option.bind_some, z_lits, z_n_add, z_n_mul, z_lt, z_le, z_eq, z_ne1, z_1ne, z_lt1, z_1lt, z_ltT, z_ltF, z_leT, z_leF, z_eqF, z_b_0, z_b_1, ↓reduceIte, eq_self, not_true_eq_false, not_false_eq_true, and_true, true_and, and_false, false_and, Nat.add_zero, Nat.zero_add]
      · simp (disch := omega) only [(z_ps_r h3.2.1).1, has, hl, h1, decide_false, Bool.and_false, Bool.false_eq_true, or_true, true_or, or_false, false_or, z_b_T, z_b_F, Bool.false_eq_true, Classical.not_not, decide_eq_true_eq, z_sq, Option.bind_some, z_lits, z_n_add, z_n_mul, z_lt, z_le, z_eq, z_ne1, z_1ne, z_lt1, z_1lt, z_ltT, z_ltF, z_leT, z_leF, z_eqF, z_b_0, z_b_1, ↓reduceIte, eq_self, not_true_eq_false, not_false_eq_true, and_true, true_and, and_false, false_and, Nat.add_zero, Nat.zero_add]
end
