/-! ONE: the pair. -/
section
variable {S : z_SH} {I : z_MI} {J : z_MJ} {P : z_MP} {K : Nat → Bool} {n : Nat × Nat}
set_option maxRecDepth 100000 in
set_option maxHeartbeats 4000000 in
theorem C_canShare (B : z_B S I J P K n.1) {s t : Nat} (hs : s < 24) (ht : t < 24) : f_Sf_canShareLines 13 (z_n s) (z_n t) (z_h S I J P n) = some (z_b (z_th I s = true ∧ z_th I t = true ∧ I 87 s = I 87 t ∧ ¬ I 88 s = I 88 t), z_h S I J P n) := by
  have hS := B.qS
  have hP := B.qP
  obtain ⟨_, v1, c1, _⟩ := B.qC.1 s hs
  obtain ⟨_, v2, c2, _⟩ := B.qC.1 t ht
  have hob := fun I J => z_ob (I := I) (J := J) (P := P) (n := n) (s_13 hS)
  have p1 := C_pageOf (I := I) (J := J) (n := n) hS hP hs
  have p2 := C_pageOf (I := I) (J := J) (n := n) hS hP ht
  unfold f_Sf_canShareLines
  rw [hob, Option.bind_some, p1, z_sq]
  rcases B.pg hs with ⟨h1, h2⟩ | ⟨h1, p, h2, h3⟩
  · rw [h2]; simp (disch := omega) only [h1, Bool.false_eq_true, or_true, true_or, or_false, false_or, z_b_T, z_b_F, Bool.false_eq_true, Classical.not_not, decide_eq_true_eq, z_sq, Option.bind_some, z_lits, z_n_add, z_n_mul, z_lt, z_le, z_eq, z_ne1, z_1ne, z_lt1, z_1lt, z_ltT, z_ltF, z_leT, z_leF, z_eqF, z_b_0, z_b_1, ↓reduceIte, eq_self, not_true_eq_false, not_false_eq_true, and_true, true_and, and_false, false_and, Nat.add_zero, Nat.zero_add]
  · rw [h2]
    show (q_ob (z_h S I J P n) 2 13).bind _ = _
    rw [hob, Option.bind_some, p2, z_sq]
    rcases B.pg ht with ⟨k1, k2⟩ | ⟨k1, q, k2, k3⟩
    · rw [k2]; simp (disch := omega) only [h1, k1, Bool.false_eq_true, or_true, true_or, or_false, false_or, z_b_T, z_b_F, Bool.false_eq_true, Classical.not_not, decide_eq_true_eq, z_sq, Option.bind_some, z_lits, z_n_add, z_n_mul, z_lt, z_le, z_eq, z_ne1, z_1ne, z_lt1, z_1lt, z_ltT, z_ltF, z_leT, z_leF, z_eqF, z_b_0, z_b_1, ↓reduceIte, eq_self, not_true_eq_false, not_false_eq_true, and_true, true_and, and_false, false_and, Nat.add_zero, Nat.zero_add]
    · rw [k2]
      rcases z_tf (I 87 s = I 87 t) with e1 | e1 <;> rcases z_tf (I 88 s = I 88 t) with e2 | e2 <;> simp (disch := omega) only [z_Shr hS hP, v1, v2, c1, c2, h1, k1, e1, e2, or_true, true_or, or_false, false_or, z_b_T, z_b_F, Bool.false_eq_true, Classical.not_not, decide_eq_true_eq, z_sq, Option.bind_some, z_lits, z_n_add, z_n_mul, z_lt, z_le, z_eq, z_ne1, z_1ne, z_lt1, z_1lt, z_ltT, z_ltF, z_leT, z_leF, z_eqF, z_b_0, z_b_1, ↓reduceIte, eq_self, not_true_eq_false, not_false_eq_true, and_true, true_and, and_false, false_and, Nat.add_zero, Nat.zero_add]
end
