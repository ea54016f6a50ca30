/-! ONE: the pair. -/
section
variable {S : z_SH} {I : z_MI} {J : z_MJ} {P : z_MP} {K : Nat → Bool} {n : Nat × Nat}
set_option maxRecDepth 100000 in
set_option maxHeartbeats 4000000 in
theorem C_canShare (B : z_B S I J P K n.1) {s t : Nat} (hs : s < 24) (ht : t < 24) : f_Sf_canShareLines 13 (z_n s) (z_n t) (z_h S I J P n) = some (z_b (z_th I s = true ∧ z_th I t = true ∧ I 87 s = I 87 t ∧ ¬ I 88 s = I 88 t), z_h S I J P n) := by
  have hS := B.qS
  have hP := B.qP
  obtain ⟨_, v1, c1, _⟩ := B.qC.1 s hs
  obtain ⟨_, v2, c2, _⟩ := B.qC.1 t ht
  have hob := fun I J => z_ob (I := I) (J := J) (P := P) (n := n) (s_13 hS)
  have p1 := C_pageOf (I := I) (J := J) (n := n) hS hP hs
  have p2 := C_pageOf (I := I) (J := J) (n := n) hS hP ht
  unfold f_Sf_canShareLines
  rw [hob, Option.bind_some, p1, z_sq]
  rcases B.pg hs with ⟨h1, h2⟩ | ⟨h1, p, h2, h3⟩
  · rw [h2]; simp (disch := omega) only [h1, Bool.false_eq_true, or_true, true_or, or_false, false_or, z_b_T, z_b_F, Bool.false_eq_true, Classical.not_not, decide_eq_true_eq, z_sq, Option.bind_some, z_lits, z_n_add, z_n_mul, z_lt, z_le, z_eq, z_ne1, z_1ne, z_lt1, z_1lt, z_ltT, z_ltF, z_leT, z_leF, z_eqF, z_b_0, z_b_1, ↓reduceIte, eq_self, not_true_eq_false, not_false_eq_true, and_true, true_and, and_false, false_and, Nat.add_zero, Nat.zero_add]
  · rw [h2]
    show (q_ob (z_h S I J P n) 2 13).bind _ = _
    rw [hob, Option.bind_some, p2, z_sq]
    rcases B.pg ht with ⟨k1, k2⟩ | ⟨k1, q, k2, k3⟩
    · rw [k2]; simp (disch := omega) only [h1, k1, Bool.false_eq_true, or_true, true_or, or_false, false_or, z_b_T, z_b_F, Bool.false_eq_true, Classical.not_not, decide_eq_true_eq, z_sq, Option.bind_some, z_lits, z_n_add, z_n_mul, z_lt, z_le, z_eq, z_ne1, z_1ne, z_lt1, z_1lt, z_ltT, z_ltF, z_leT, z_leF, z_eqF, z_b_0, z_b_1, ↓reduceIte, eq_self, not_true_eq_false, not_false_eq_true, and_true, true_and, and_false, false_and, Nat.add_zero, Nat.zero_add]
    · rw [k2]
      rcases z_tf (I 87 s = I 87 t) with e1 | e1 <;> rcases z_tf (I 88 s = I 88 t) with e2 | e2 <;> simp (disch := omega) only [z_Shr hS hP, v1, v2, c1, c2, h1, k1, e1, e2, or_true, true_or, or_false, false_or, z_b_T, z_b_F, Bool.false_eq_true, Classical.not_not, decide_eq_true_eq, z_sq, Option.bind_some, z_lits, z_n_add, z_n_mul, z_lt, z_le, z_eq, z_ne1, z_1ne, z_lt1, z_1lt, z_ltT, z_ltF, z_leT, z_leF, z_eqF, z_b_0, z_b_1, ↓reduceIte, eq_self, not_true_eq_false, not_false_eq_true, and_true, true_and, and_false, false_and, Nat.add_zero, Nat.zero_add]
/-- the reference's search on another sheet -/
def u_one (I : z_MI) (J : z_MJ) (s t a : Nat) : Int32 := if z_th I t = true ∧ ¬ s = t ∧ I 87 s = I 87 t ∧ ¬ I 88 s = I 88 t then (if d_on (I 88 s) (I 88 t) (z_Ds I J s) a (z_Ds I J t) < (z_Ds I J t).1 then z_n (d_on (I 88 s) (I 88 t) (z_Ds I J s) a (z_Ds I J t)) else -z_n 1) else -z_n 1
set_option maxRecDepth 100000 in
set_option maxHeartbeats 4000000 in
theorem M_oneOf {S : z_SH} {I : z_MI} {J : z_MJ} {P : z_MP} {n : Nat × Nat} (hS : z_St S) (hP : z_Pt P) (hL : z_lL I) {s t a : Nat} (hs : s < 24) (ht : t < 24) (h : d_ok (z_Ds I J s)) (ha : a < (z_Ds I J s).1) : f_Mo_oneOf 83 (z_n s) (z_n a) (z_n t) (z_h S I J P n) = some (u_one I J s t a, z_h S I J P n) := by
  have hob := fun I J => z_ob (I := I) (J := J) (P := P) (n := n) (s_83 hS)
  have th := M_isThere (n := n) (I := I) (J := J) hS hP ht
  have lt := hL t (by omega)
  have lo := M_oneL (n := n) hS hP hs ht h ha (N := z_ln I t) lt.2 lt.1
  have e : (z_Ds I J t).1 = z_ln I t := rfl
  unfold u_one
  rcases z_tf (z_th I t = true) with h1 | h1 <;> rcases z_tf (s = t) with h2 | h2 <;> rcases z_tf (I 87 s = I 87 t) with h3 | h3 <;> rcases z_tf (I 88 s = I 88 t) with h4 | h4 <;> simp (disch := omega) only [f_Mo_oneOf, z_Mr hS hP, th, h1, h2, h3, h4, or_true, true_or, or_false, false_or, z_b_T, z_b_F, Bool.false_eq_true, Classical.not_not, decide_eq_true_eq, z_sq, Option.bind_some, z_lits, z_n_add, z_n_mul, z_lt, z_le, z_eq, z_ne1, z_1ne, z_lt1, z_1lt, z_ltT, z_ltF, z_leT, z_leF, z_eqF, z_b_0, z_b_1, ↓reduceIte, eq_self, not_true_eq_false, not_false_eq_true, and_true, true_and, and_false, false_and, Nat.add_zero, Nat.zero_add]
  rw [lo, z_sq]
  unfold d_on
  rw [e]
  by_cases hc : z_ff (d_one (I 88 s) (I 88 t) (z_Ds I J s) a (z_Ds I J t)) (z_ln I t) < z_ln I t
  · rw [if_pos hc, if_pos hc]
  · rw [if_neg hc, if_neg hc]
end
