/-! ONE: the answer. -/
section
variable {S : z_SH} {I : z_MI} {J : z_MJ} {P : z_MP} {K : Nat → Bool} {n : Nat × Nat}
theorem z_kin2 {s t a b : Nat} (h : d_ok (z_Ds I J s)) (ha : a < (z_Ds I J s).1) : (z_kin J (12 * s + a) (12 * t + b) = 2) = (d_full (z_Ds I J s) a (z_Ds I J t) b = true) := by
  obtain ⟨-, -, -, -, -, f1, f2⟩ := h.2.1 a ha
  have e1 : (z_Ds I J s).2.2 1 a = J 97 (12 * s + a) := rfl
  have e2 : (z_Ds I J s).2.2 2 a = J 98 (12 * s + a) := rfl
  have e3 : (z_Ds I J t).2.2 1 b = J 97 (12 * t + b) := rfl
  have e4 : (z_Ds I J t).2.2 2 b = J 98 (12 * t + b) := rfl
  unfold z_kin d_full
  rw [e1] at f1
  rw [e2] at f2
  rw [e1, e2, e3, e4]
  simp only [z_pos f1, z_pos f2, decide_eq_true_eq, and_assoc]
  apply propext
  constructor
  · intro h
    by_cases c : ¬J 97 (12 * s + a) = 0 ∧ J 97 (12 * s + a) = J 97 (12 * t + b) ∧ ¬J 98 (12 * s + a) = 0 ∧ J 98 (12 * s + a) = J 98 (12 * t + b)
    · exact c
    · rw [if_neg c] at h
      split at h <;> cases h
  · intro c
    rw [if_pos c]
set_option maxRecDepth 100000 in
set_option maxHeartbeats 4000000 in
theorem M_isOne {S : z_SH} {I : z_MI} {J : z_MJ} {P : z_MP} {n : Nat × Nat} (hS : z_St S) (hP : z_Pt P) {s t a b : Nat} (hs : s < 24) (ht : t < 24) (h : d_ok (z_Ds I J s)) (ha : a < (z_Ds I J s).1) (hb : b < 12) : f_Mo_isOne 83 (z_n s) (z_n a) (z_n t) (z_n b) (z_h S I J P n) = some (z_b (d_one (I 88 s) (I 88 t) (z_Ds I J s) a (z_Ds I J t) b = true), z_h S I J P n) := by
  have h12 := h.1
  obtain ⟨f1, f2⟩ := M_fb (n := n) (J := J) hS hP hs (show a < 12 by omega)
  obtain ⟨f3, f4⟩ := M_fb (n := n) (J := J) hS hP ht hb
  have kk := M_kinOf (n := n) (J := J) (I := I) hS hP (a := 12 * s + a) (b := 12 * t + b) (by omega) (by omega)
  have k2 := z_kin2 (t := t) (b := b) h ha
  have e1 : (z_Ds I J s).2.1 0 a = I 91 (12 * s + a) := rfl
  have e2 : (z_Ds I J t).2.1 0 b = I 91 (12 * t + b) := rfl
  have e3 : (z_Ds I J s).2.2 0 a = J 96 (12 * s + a) := rfl
  have e4 : (z_Ds I J t).2.2 0 b = J 96 (12 * t + b) := rfl
  have kl := z_kin_le J (12 * s + a) (12 * t + b)
  unfold d_one
  rw [e1, e2, e3, e4]
  simp only [Bool.and_eq_true, decide_eq_true_eq, and_assoc, ← k2]
  generalize z_kin J (12 * s + a) (12 * t + b) = k at *
  have hob := fun I J => z_ob (I := I) (J := J) (P := P) (n := n) (s_83 hS)
  rcases z_tf (I 91 (12 * s + a) = I 91 (12 * t + b)) with h1 | h1 <;> rcases z_tf (J 96 (12 * s + a) = J 96 (12 * t + b)) with h0 | h0 <;> rcases z_tf (k = 2) with h2 | h2 <;> simp (disch := omega) only [f_Mo_isOne, z_Mr hS hP, kk, h0, h1, h2, or_true, true_or, or_false, false_or, z_b_T, z_b_F, Bool.false_eq_true, Classical.not_not, decide_eq_true_eq, z_sq, Option.bind_some, z_lits, z_n_add, z_n_mul, z_lt, z_le, z_eq, z_ne1, z_1ne, z_lt1, z_1lt, z_ltT, z_ltF, z_leT, z_leF, z_eqF, z_b_0, z_b_1, ↓reduceIte, eq_self, not_true_eq_false, not_false_eq_true, and_true, true_and, and_false, false_and, Nat.add_zero, Nat.zero_add]
  rw [f1, z_sq, hob, Option.bind_some, f4, z_sq]
  rcases z_tf (d_lb (I 88 t) (z_Ds I J t) b < d_fb (I 88 s) (z_Ds I J s) a) with h3 | h3
  · simp (disch := omega) only [h3, or_true, true_or, or_false, false_or, z_b_T, z_b_F, Bool.false_eq_true, Classical.not_not, decide_eq_true_eq, z_sq, Option.bind_some, z_lits, z_n_add, z_n_mul, z_lt, z_le, z_eq, z_ne1, z_1ne, z_lt1, z_1lt, z_ltT, z_ltF, z_leT, z_leF, z_eqF, z_b_0, z_b_1, ↓reduceIte, eq_self, not_true_eq_false, not_false_eq_true, and_true, true_and, and_false, false_and, Nat.add_zero, Nat.zero_add]
  · simp (disch := omega) only [h3, or_true, true_or, or_false, false_or, z_b_T, z_b_F, Bool.false_eq_true, Classical.not_not, decide_eq_true_eq, z_sq, Option.bind_some, z_lits, z_n_add, z_n_mul, z_lt, z_le, z_eq, z_ne1, z_1ne, z_lt1, z_1lt, z_ltT, z_ltF, z_leT, z_leF, z_eqF, z_b_0, z_b_1, ↓reduceIte, eq_self, not_true_eq_false, not_false_eq_true, and_true, true_and, and_false, false_and, Nat.add_zero, Nat.zero_add]
    rw [f3, z_sq, hob, Option.bind_some, f2, z_sq]
    rcases z_tf (d_lb (I 88 s) (z_Ds I J s) a < d_fb (I 88 t) (z_Ds I J t) b) with h4 | h4 <;> simp (disch := omega) only [h4, or_true, true_or, or_false, false_or, z_b_T, z_b_F, Bool.false_eq_true, Classical.not_not, decide_eq_true_eq, z_sq, Option.bind_some, z_lits, z_n_add, z_n_mul, z_lt, z_le, z_eq, z_ne1, z_1ne, z_lt1, z_1lt, z_ltT, z_ltF, z_leT, z_leF, z_eqF, z_b_0, z_b_1, ↓reduceIte, eq_self, not_true_eq_false, not_false_eq_true, and_true, true_and, and_false, false_and, Nat.add_zero, Nat.zero_add]
set_option maxRecDepth 100000 in
set_option maxHeartbeats 4000000 in
theorem M_oneL {S : z_SH} {I : z_MI} {J : z_MJ} {P : z_MP} {n : Nat × Nat} (hS : z_St S) (hP : z_Pt P) {s t a N : Nat} (hs : s < 24) (ht : t < 24) (h : d_ok (z_Ds I J s)) (ha : a < (z_Ds I J s).1) (hN : N ≤ 12) (hr : I 90 t = z_n N) : f_Mo_oneOf_L48 83 (z_n s) (z_n a) (z_n t) q_FU (z_n 0) (z_h S I J P n) = some ((if z_ff (d_one (I 88 s) (I 88 t) (z_Ds I J s) a (z_Ds I J t)) N < N then Sum.inl (z_n (z_ff (d_one (I 88 s) (I 88 t) (z_Ds I J s) a (z_Ds I J t)) N)) else Sum.inr ()), z_h S I J P n) := by
  have hle := z_ff_le (d_one (I 88 s) (I 88 t) (z_Ds I J s) a (z_Ds I J t)) N
  refine z_run (fun m k => f_Mo_oneOf_L48 83 (z_n s) (z_n a) (z_n t) m (z_n k) (z_h S I J P n)) (z_ff (d_one (I 88 s) (I 88 t) (z_Ds I J s) a (z_Ds I J t)) N) (by omega)
    (by
      intro m j hj
      have hjc : j < N := by omega
      have no := z_ff_no _ _ _ hj
      have o := M_isOne (n := n) hS hP hs ht h ha (b := j) (by omega)
      rw [no] at o
      simp (disch := omega) only [f_Mo_oneOf_L48, z_Mr hS hP, hr, hjc, o, or_true, true_or, or_false, false_or, z_b_T, z_b_F, Bool.false_eq_true, Classical.not_not, decide_eq_true_eq, z_sq, Option.bind_some, z_lits, z_n_add, z_n_mul, z_lt, z_le, z_eq, z_ne1, z_1ne, z_lt1, z_1lt, z_ltT, z_ltF, z_leT, z_leF, z_eqF, z_b_0, z_b_1, ↓reduceIte, eq_self, not_true_eq_false, not_false_eq_true, and_true, true_and, and_false, false_and, Nat.add_zero, Nat.zero_add])
    (by
      intro m
      by_cases hc : z_ff (d_one (I 88 s) (I 88 t) (z_Ds I J s) a (z_Ds I J t)) N < N
      · rw [if_pos hc]
        have is := z_ff_is _ _ hc
        have o := M_isOne (n := n) hS hP hs ht h ha (b := z_ff (d_one (I 88 s) (I 88 t) (z_Ds I J s) a (z_Ds I J t)) N) (by omega)
        rw [is] at o
        simp (disch := omega) only [f_Mo_oneOf_L48, z_Mr hS hP, hr, hc, o, or_true, true_or, or_false, false_or, z_b_T, z_b_F, Bool.false_eq_true, Classical.not_not, decide_eq_true_eq, z_sq, Option.bind_some, z_lits, z_n_add, z_n_mul, z_lt, z_le, z_eq, z_ne1, z_1ne, z_lt1, z_1lt, z_ltT, z_ltF, z_leT, z_leF, z_eqF, z_b_0, z_b_1, ↓reduceIte, eq_self, not_true_eq_false, not_false_eq_true, and_true, true_and, and_false, false_and, Nat.add_zero, Nat.zero_add]
      · rw [if_neg hc]
        have hc' : z_ff (d_one (I 88 s) (I 88 t) (z_Ds I J s) a (z_Ds I J t)) N = N := by omega
        rw [hc']
        simp (disch := omega) only [f_Mo_oneOf_L48, z_Mr hS hP, hr, Nat.lt_irrefl, or_true, true_or, or_false, false_or, z_b_T, z_b_F, Bool.false_eq_true, Classical.not_not, decide_eq_true_eq, z_sq, Option.bind_some, z_lits, z_n_add, z_n_mul, z_lt, z_le, z_eq, z_ne1, z_1ne, z_lt1, z_1lt, z_ltT, z_ltF, z_leT, z_leF, z_eqF, z_b_0, z_b_1, ↓reduceIte, eq_self, not_true_eq_false, not_false_eq_true, and_true, true_and, and_false, false_and, Nat.add_zero, Nat.zero_add])
end
