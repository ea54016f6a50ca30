/-! The reference's small methods. -/
theorem M_within {v a b : Int32} {σ : q_H} : f_Mo_within v a b σ = some (z_b (¬ v < a ∧ ¬ b < v), σ) := by
  unfold f_Mo_within z_b
  by_cases h1 : v < a
  · simp [h1]; rfl
  · by_cases h2 : b < v
    · simp [h1, h2]; rfl
    · simp [h1, h2]; rfl
theorem M_win {k N : Nat} {σ : q_H} (hk : k ≤ N) (hN : N < 2147483648) : f_Mo_within (z_n k) (z_n 0) (z_n N) σ = some (z_n 1, σ) := by
  rw [M_within, z_b_t]; simp (disch := omega) only [z_lt]; omega
theorem M_wout {s : Int32} {N : Nat} {σ : q_H} (h : z_o s N) : f_Mo_within s (z_n 0) (z_n N) σ = some (z_n 0, σ) := by
  rw [M_within, z_b_f]; intro ⟨h1, h2⟩; exact h.elim h1 h2
def z_th (I : z_MI) (s : Nat) : Bool := decide (¬ I 85 s = z_n 0 ∧ ¬ I 86 s = z_n 0)
def z_ln (I : z_MI) (s : Nat) : Nat := (I 90 s).toNatClampNeg
def z_hb (I : z_MI) (a : Nat) : Nat := (I 93 a).toNatClampNeg
set_option maxRecDepth 100000 in
set_option maxHeartbeats 4000000 in
theorem M_isSheet {S : z_SH} {I : z_MI} {J : z_MJ} {P : z_MP} {n : Nat × Nat} (hS : z_St S) (hP : z_Pt P) {s : Nat} (hs : s < 24) : f_Mo_isSheet 83 (z_n s) (z_h S I J P n) = some (z_b (¬ I 85 s = z_n 0), z_h S I J P n) := by
  simp (disch := omega) only [f_Mo_isSheet, M_win, z_Mr hS hP, or_true, true_or, or_false, false_or, z_b_T, z_b_F, Bool.false_eq_true, Classical.not_not, decide_eq_true_eq, z_sq, Option.bind_some, z_lits, z_n_add, z_n_mul, z_lt, z_le, z_eq, z_ne1, z_1ne, z_lt1, z_1lt, z_ltT, z_ltF, z_leT, z_leF, z_eqF, z_b_0, z_b_1, ↓reduceIte, eq_self, not_true_eq_false, not_false_eq_true, and_true, true_and, and_false, false_and, Nat.add_zero, Nat.zero_add]
  by_cases h : I 85 s = z_n 0
  · simp only [h, if_true, not_true_eq_false, z_b, if_false]
  · simp only [h, if_false, not_false_eq_true, z_b, if_true]
theorem M_isSheet_o {S : z_SH} {I : z_MI} {J : z_MJ} {P : z_MP} {n : Nat × Nat} (hS : z_St S) (hP : z_Pt P) {s : Int32} (h : z_o s 23) : f_Mo_isSheet 83 s (z_h S I J P n) = some (z_n 0, z_h S I J P n) := by
  simp (disch := omega) only [f_Mo_isSheet, M_wout h, or_true, true_or, or_false, false_or, z_b_T, z_b_F, Bool.false_eq_true, Classical.not_not, decide_eq_true_eq, z_sq, Option.bind_some, z_lits, z_n_add, z_n_mul, z_lt, z_le, z_eq, z_ne1, z_1ne, z_lt1, z_1lt, z_ltT, z_ltF, z_leT, z_leF, z_eqF, z_b_0, z_b_1, ↓reduceIte, eq_self, not_true_eq_false, not_false_eq_true, and_true, true_and, and_false, false_and, Nat.add_zero, Nat.zero_add]
set_option maxRecDepth 100000 in
set_option maxHeartbeats 4000000 in
theorem M_isThere {S : z_SH} {I : z_MI} {J : z_MJ} {P : z_MP} {n : Nat × Nat} (hS : z_St S) (hP : z_Pt P) {s : Nat} (hs : s < 24) : f_Mo_isThere 83 (z_n s) (z_h S I J P n) = some (z_b (z_th I s = true), z_h S I J P n) := by
  simp (disch := omega) only [f_Mo_isThere, M_isSheet hS hP hs, z_Mr hS hP, or_true, true_or, or_false, false_or, z_b_T, z_b_F, Bool.false_eq_true, Classical.not_not, decide_eq_true_eq, z_sq, Option.bind_some, z_lits, z_n_add, z_n_mul, z_lt, z_le, z_eq, z_ne1, z_1ne, z_lt1, z_1lt, z_ltT, z_ltF, z_leT, z_leF, z_eqF, z_b_0, z_b_1, ↓reduceIte, eq_self, not_true_eq_false, not_false_eq_true, and_true, true_and, and_false, false_and, Nat.add_zero, Nat.zero_add]
  unfold z_th z_b
  by_cases h : I 85 s = z_n 0
  · simp [h]
  · by_cases h2 : I 86 s = z_n 0
    · simp [h, h2]
    · simp [h, h2]
theorem M_isThere_o {S : z_SH} {I : z_MI} {J : z_MJ} {P : z_MP} {n : Nat × Nat} (hS : z_St S) (hP : z_Pt P) {s : Int32} (h : z_o s 23) : f_Mo_isThere 83 s (z_h S I J P n) = some (z_n 0, z_h S I J P n) := by
  simp (disch := omega) only [f_Mo_isThere, M_isSheet_o hS hP h, z_Mr hS hP, or_true, true_or, or_false, false_or, z_b_T, z_b_F, Bool.false_eq_true, Classical.not_not, decide_eq_true_eq, z_sq, Option.bind_some, z_lits, z_n_add, z_n_mul, z_lt, z_le, z_eq, z_ne1, z_1ne, z_lt1, z_1lt, z_ltT, z_ltF, z_leT, z_leF, z_eqF, z_b_0, z_b_1, ↓reduceIte, eq_self, not_true_eq_false, not_false_eq_true, and_true, true_and, and_false, false_and, Nat.add_zero, Nat.zero_add]
def z_kin (J : z_MJ) (a b : Nat) : Nat :=
  if (0 < J 97 a ∧ J 97 a = J 97 b) ∧ (0 < J 98 a ∧ J 98 a = J 98 b) then 2
  else if (0 < J 97 a ∧ J 97 a = J 97 b) ∨ (0 < J 98 a ∧ J 98 a = J 98 b) then 1 else 0
theorem z_kin_le (J : z_MJ) (a b : Nat) : z_kin J a b ≤ 2 := by 
  unfold z_kin
  split
  · omega
  · split <;> omega
set_option maxRecDepth 100000 in
set_option maxHeartbeats 4000000 in
theorem M_kinOf {S : z_SH} {I : z_MI} {J : z_MJ} {P : z_MP} {n : Nat × Nat} (hS : z_St S) (hP : z_Pt P) {a b : Nat} (ha : a < 300) (hb : b < 300) : f_Mo_kinOf 83 (z_n a) (z_n b) (z_h S I J P n) = some (z_n (z_kin J a b), z_h S I J P n) := by
  simp (disch := omega) only [f_Mo_kinOf, z_Mr hS hP, or_true, true_or, or_false, false_or, z_b_T, z_b_F, Bool.false_eq_true, Classical.not_not, decide_eq_true_eq, z_sq, Option.bind_some, z_lits, z_n_add, z_n_mul, z_lt, z_le, z_eq, z_ne1, z_1ne, z_lt1, z_1lt, z_ltT, z_ltF, z_leT, z_leF, z_eqF, z_b_0, z_b_1, ↓reduceIte, eq_self, not_true_eq_false, not_false_eq_true, and_true, true_and, and_false, false_and, Nat.add_zero, Nat.zero_add]
  unfold z_kin
  rcases z_tf (0 < J 97 a) with h1 | h1 <;> rcases z_tf (J 97 a = J 97 b) with h2 | h2 <;> rcases z_tf (0 < J 98 a) with h3 | h3 <;> rcases z_tf (J 98 a = J 98 b) with h4 | h4 <;>
    simp (disch := omega) only [h1, h2, h3, h4, z_Mr hS hP, or_true, true_or, or_false, false_or, z_b_T, z_b_F, Bool.false_eq_true, Classical.not_not, decide_eq_true_eq, z_sq, Option.bind_some, z_lits, z_n_add, z_n_mul, z_lt, z_le, z_eq, z_ne1, z_1ne, z_lt1, z_1lt, z_ltT, z_ltF, z_leT, z_leF, z_eqF, z_b_0, z_b_1, ↓reduceIte, eq_self, not_true_eq_false, not_false_eq_true, and_true, true_and, and_false, false_and, Nat.add_zero, Nat.zero_add, and_self, or_self, or_true, true_or, or_false, false_or]
/-- what the reference's rows hold -/
def z_lL (I : z_MI) : Prop := ∀ s, s < 24 → I 90 s = z_n (z_ln I s) ∧ z_ln I s ≤ 12
def z_lW (I : z_MI) : Prop := ∀ s, s < 24 → ∀ l, l < z_ln I s → I 93 (12 * s + l) = -z_n 1 ∨ (I 93 (12 * s + l) = z_n (z_hb I (12 * s + l)) ∧ z_hb I (12 * s + l) < z_ln I s)
/-- a line's wife is one -/
def z_wf (I : z_MI) (s l : Nat) : Bool := decide (z_th I s = true ∧ l < z_ln I s ∧ ¬ I 93 (12 * s + l) = -z_n 1)
set_option maxRecDepth 100000 in
set_option maxHeartbeats 4000000 in
theorem M_isLine {S : z_SH} {I : z_MI} {J : z_MJ} {P : z_MP} {n : Nat × Nat} (hS : z_St S) (hP : z_Pt P) (hL : z_lL I) {s l : Nat} (hs : s < 24) (hl : l ≤ 11) : f_Mo_isLine 83 (z_n s) (z_n l) (z_h S I J P n) = some (z_b (z_th I s = true ∧ l < z_ln I s), z_h S I J P n) := by
  simp (disch := omega) only [f_Mo_isLine, M_isThere hS hP hs, M_within, (hL s (by omega)).1, z_Mr hS hP, or_true, true_or, or_false, false_or, z_b_T, z_b_F, Bool.false_eq_true, Classical.not_not, decide_eq_true_eq, z_sq, Option.bind_some, z_lits, z_n_add, z_n_mul, z_lt, z_le, z_eq, z_ne1, z_1ne, z_lt1, z_1lt, z_ltT, z_ltF, z_leT, z_leF, z_eqF, z_b_0, z_b_1, ↓reduceIte, eq_self, not_true_eq_false, not_false_eq_true, and_true, true_and, and_false, false_and, Nat.add_zero, Nat.zero_add]
  have h12 := (hL s (by omega)).2
  by_cases h : z_th I s = true
  · by_cases h0 : z_ln I s = 0
    · simp (disch := omega) only [h, h0, or_true, true_or, or_false, false_or, z_b_T, z_b_F, Bool.false_eq_true, Classical.not_not, decide_eq_true_eq, z_sq, Option.bind_some, z_lits, z_n_add, z_n_mul, z_lt, z_le, z_eq, z_ne1, z_1ne, z_lt1, z_1lt, z_ltT, z_ltF, z_leT, z_leF, z_eqF, z_b_0, z_b_1, ↓reduceIte, eq_self, not_true_eq_false, not_false_eq_true, and_true, true_and, and_false, false_and, Nat.add_zero, Nat.zero_add]
      rw [show z_n 0 - z_n 1 = -z_n 1 by decide]
      simp (disch := omega) only [or_true, true_or, or_false, false_or, z_b_T, z_b_F, Bool.false_eq_true, Classical.not_not, decide_eq_true_eq, z_sq, Option.bind_some, z_lits, z_n_add, z_n_mul, z_lt, z_le, z_eq, z_ne1, z_1ne, z_lt1, z_1lt, z_ltT, z_ltF, z_leT, z_leF, z_eqF, z_b_0, z_b_1, ↓reduceIte, eq_self, not_true_eq_false, not_false_eq_true, and_true, true_and, and_false, false_and, Nat.add_zero, Nat.zero_add]
    · rw [z_n_sub (by omega)]
      by_cases h2 : l < z_ln I s <;> simp (disch := omega) only [h, h2, or_true, true_or, or_false, false_or, z_b_T, z_b_F, Bool.false_eq_true, Classical.not_not, decide_eq_true_eq, z_sq, Option.bind_some, z_lits, z_n_add, z_n_mul, z_lt, z_le, z_eq, z_ne1, z_1ne, z_lt1, z_1lt, z_ltT, z_ltF, z_leT, z_leF, z_eqF, z_b_0, z_b_1, ↓reduceIte, eq_self, not_true_eq_false, not_false_eq_true, and_true, true_and, and_false, false_and, Nat.add_zero, Nat.zero_add]
  · simp (disch := omega) only [h, or_true, true_or, or_false, false_or, z_b_T, z_b_F, Bool.false_eq_true, Classical.not_not, decide_eq_true_eq, z_sq, Option.bind_some, z_lits, z_n_add, z_n_mul, z_lt, z_le, z_eq, z_ne1, z_1ne, z_lt1, z_1lt, z_ltT, z_ltF, z_leT, z_leF, z_eqF, z_b_0, z_b_1, ↓reduceIte, eq_self, not_true_eq_false, not_false_eq_true, and_true, true_and, and_false, false_and, Nat.add_zero, Nat.zero_add]
theorem M_isLine_o {S : z_SH} {I : z_MI} {J : z_MJ} {P : z_MP} {n : Nat × Nat} (hS : z_St S) (hP : z_Pt P) (hL : z_lL I) {s : Nat} {l : Int32} (hs : s < 24) (hl : z_o l 11) : f_Mo_isLine 83 (z_n s) l (z_h S I J P n) = some (z_n 0, z_h S I J P n) := by
  simp (disch := omega) only [f_Mo_isLine, M_isThere hS hP hs, M_within, (hL s (by omega)).1, z_Mr hS hP, or_true, true_or, or_false, false_or, z_b_T, z_b_F, Bool.false_eq_true, Classical.not_not, decide_eq_true_eq, z_sq, Option.bind_some, z_lits, z_n_add, z_n_mul, z_lt, z_le, z_eq, z_ne1, z_1ne, z_lt1, z_1lt, z_ltT, z_ltF, z_leT, z_leF, z_eqF, z_b_0, z_b_1, ↓reduceIte, eq_self, not_true_eq_false, not_false_eq_true, and_true, true_and, and_false, false_and, Nat.add_zero, Nat.zero_add]
  have h12 := (hL s (by omega)).2
  by_cases h : z_th I s = true
  · have h3 : ¬ (¬ l < z_n 0 ∧ ¬ z_n (z_ln I s) - z_n 1 < l) := by
      intro ⟨h4, h5⟩
      rcases hl with h6 | h6
      · exact h4 h6
      · apply h5
        rw [Int32.lt_iff_toInt_lt, z_n_int (by omega)] at h6
        by_cases h0 : z_ln I s = 0
        · rw [h0, show z_n 0 - z_n 1 = -z_n 1 by decide, Int32.lt_iff_toInt_lt]
          have := z_m1
          omega
        · rw [z_n_sub (by omega), Int32.lt_iff_toInt_lt, z_n_int (by omega)]; omega
    simp (disch := omega) only [h, h3, or_true, true_or, or_false, false_or, z_b_T, z_b_F, Bool.false_eq_true, Classical.not_not, decide_eq_true_eq, z_sq, Option.bind_some, z_lits, z_n_add, z_n_mul, z_lt, z_le, z_eq, z_ne1, z_1ne, z_lt1, z_1lt, z_ltT, z_ltF, z_leT, z_leF, z_eqF, z_b_0, z_b_1, ↓reduceIte, eq_self, not_true_eq_false, not_false_eq_true, and_true, true_and, and_false, false_and, Nat.add_zero, Nat.zero_add]
  · simp (disch := omega) only [h, or_true, true_or, or_false, false_or, z_b_T, z_b_F, Bool.false_eq_true, Classical.not_not, decide_eq_true_eq, z_sq, Option.bind_some, z_lits, z_n_add, z_n_mul, z_lt, z_le, z_eq, z_ne1, z_1ne, z_lt1, z_1lt, z_ltT, z_ltF, z_leT, z_leF, z_eqF, z_b_0, z_b_1, ↓reduceIte, eq_self, not_true_eq_false, not_false_eq_true, and_true, true_and, and_false, false_and, Nat.add_zero, Nat.zero_add]
theorem M_isLine_oo {S : z_SH} {I : z_MI} {J : z_MJ} {P : z_MP} {n : Nat × Nat} (hS : z_St S) (hP : z_Pt P) {s l : Int32} (hs : z_o s 23) : f_Mo_isLine 83 s l (z_h S I J P n) = some (z_n 0, z_h S I J P n) := by
  simp (disch := omega) only [f_Mo_isLine, M_isThere_o hS hP hs, z_Mr hS hP, or_true, true_or, or_false, false_or, z_b_T, z_b_F, Bool.false_eq_true, Classical.not_not, decide_eq_true_eq, z_sq, Option.bind_some, z_lits, z_n_add, z_n_mul, z_lt, z_le, z_eq, z_ne1, z_1ne, z_lt1, z_1lt, z_ltT, z_ltF, z_leT, z_leF, z_eqF, z_b_0, z_b_1, ↓reduceIte, eq_self, not_true_eq_false, not_false_eq_true, and_true, true_and, and_false, false_and, Nat.add_zero, Nat.zero_add]
set_option maxRecDepth 100000 in
set_option maxHeartbeats 4000000 in
theorem M_isWife {S : z_SH} {I : z_MI} {J : z_MJ} {P : z_MP} {n : Nat × Nat} (hS : z_St S) (hP : z_Pt P) (hL : z_lL I) (hW : z_lW I) {s l : Nat} (hs : s < 24) (hl : l ≤ 11) : f_Mo_isWife 83 (z_n s) (z_n l) (z_h S I J P n) = some (z_b (z_wf I s l = true), z_h S I J P n) := by
  simp (disch := omega) only [f_Mo_isWife, M_isLine hS hP hL hs hl, z_Mr hS hP, or_true, true_or, or_false, false_or, z_b_T, z_b_F, Bool.false_eq_true, Classical.not_not, decide_eq_true_eq, z_sq, Option.bind_some, z_lits, z_n_add, z_n_mul, z_lt, z_le, z_eq, z_ne1, z_1ne, z_lt1, z_1lt, z_ltT, z_ltF, z_leT, z_leF, z_eqF, z_b_0, z_b_1, ↓reduceIte, eq_self, not_true_eq_false, not_false_eq_true, and_true, true_and, and_false, false_and, Nat.add_zero, Nat.zero_add]
  unfold z_wf
  by_cases h : z_th I s = true
  · by_cases h2 : l < z_ln I s
    · rcases hW s hs l h2 with h3 | ⟨h3, h4⟩
      · simp (disch := omega) only [h, h2, h3, decide_eq_true_eq, or_true, true_or, or_false, false_or, z_b_T, z_b_F, Bool.false_eq_true, Classical.not_not, decide_eq_true_eq, z_sq, Option.bind_some, z_lits, z_n_add, z_n_mul, z_lt, z_le, z_eq, z_ne1, z_1ne, z_lt1, z_1lt, z_ltT, z_ltF, z_leT, z_leF, z_eqF, z_b_0, z_b_1, ↓reduceIte, eq_self, not_true_eq_false, not_false_eq_true, and_true, true_and, and_false, false_and, Nat.add_zero, Nat.zero_add]
      · have := (hL s (by omega)).2
        simp (disch := omega) only [h, h2, h3, decide_eq_true_eq, or_true, true_or, or_false, false_or, z_b_T, z_b_F, Bool.false_eq_true, Classical.not_not, decide_eq_true_eq, z_sq, Option.bind_some, z_lits, z_n_add, z_n_mul, z_lt, z_le, z_eq, z_ne1, z_1ne, z_lt1, z_1lt, z_ltT, z_ltF, z_leT, z_leF, z_eqF, z_b_0, z_b_1, ↓reduceIte, eq_self, not_true_eq_false, not_false_eq_true, and_true, true_and, and_false, false_and, Nat.add_zero, Nat.zero_add]
    · simp (disch := omega) only [h, h2, decide_eq_true_eq, or_true, true_or, or_false, false_or, z_b_T, z_b_F, Bool.false_eq_true, Classical.not_not, decide_eq_true_eq, z_sq, Option.bind_some, z_lits, z_n_add, z_n_mul, z_lt, z_le, z_eq, z_ne1, z_1ne, z_lt1, z_1lt, z_ltT, z_ltF, z_leT, z_leF, z_eqF, z_b_0, z_b_1, ↓reduceIte, eq_self, not_true_eq_false, not_false_eq_true, and_true, true_and, and_false, false_and, Nat.add_zero, Nat.zero_add]
  · simp (disch := omega) only [h, decide_eq_true_eq, or_true, true_or, or_false, false_or, z_b_T, z_b_F, Bool.false_eq_true, Classical.not_not, decide_eq_true_eq, z_sq, Option.bind_some, z_lits, z_n_add, z_n_mul, z_lt, z_le, z_eq, z_ne1, z_1ne, z_lt1, z_1lt, z_ltT, z_ltF, z_leT, z_leF, z_eqF, z_b_0, z_b_1, ↓reduceIte, eq_self, not_true_eq_false, not_false_eq_true, and_true, true_and, and_false, false_and, Nat.add_zero, Nat.zero_add]
theorem M_isWife_o {S : z_SH} {I : z_MI} {J : z_MJ} {P : z_MP} {n : Nat × Nat} (hS : z_St S) (hP : z_Pt P) (hL : z_lL I) {s : Nat} {l : Int32} (hs : s < 24) (hl : z_o l 11) : f_Mo_isWife 83 (z_n s) l (z_h S I J P n) = some (z_n 0, z_h S I J P n) := by
  simp (disch := omega) only [f_Mo_isWife, M_isLine_o hS hP hL hs hl, z_Mr hS hP, or_true, true_or, or_false, false_or, z_b_T, z_b_F, Bool.false_eq_true, Classical.not_not, decide_eq_true_eq, z_sq, Option.bind_some, z_lits, z_n_add, z_n_mul, z_lt, z_le, z_eq, z_ne1, z_1ne, z_lt1, z_1lt, z_ltT, z_ltF, z_leT, z_leF, z_eqF, z_b_0, z_b_1, ↓reduceIte, eq_self, not_true_eq_false, not_false_eq_true, and_true, true_and, and_false, false_and, Nat.add_zero, Nat.zero_add]
theorem M_isWife_oo {S : z_SH} {I : z_MI} {J : z_MJ} {P : z_MP} {n : Nat × Nat} (hS : z_St S) (hP : z_Pt P) {s l : Int32} (hs : z_o s 23) : f_Mo_isWife 83 s l (z_h S I J P n) = some (z_n 0, z_h S I J P n) := by
  simp (disch := omega) only [f_Mo_isWife, M_isLine_oo hS hP hs, z_Mr hS hP, or_true, true_or, or_false, false_or, z_b_T, z_b_F, Bool.false_eq_true, Classical.not_not, decide_eq_true_eq, z_sq, Option.bind_some, z_lits, z_n_add, z_n_mul, z_lt, z_le, z_eq, z_ne1, z_1ne, z_lt1, z_1lt, z_ltT, z_ltF, z_leT, z_leF, z_eqF, z_b_0, z_b_1, ↓reduceIte, eq_self, not_true_eq_false, not_false_eq_true, and_true, true_and, and_false, false_and, Nat.add_zero, Nat.zero_add]
theorem M_isTable {t : Nat} {σ : q_H} (ht : t ≤ 3) : f_Mo_isTable (z_n t) σ = some (z_n 1, σ) := by
  simp (disch := omega) only [f_Mo_isTable, or_true, true_or, or_false, false_or, z_b_T, z_b_F, Bool.false_eq_true, Classical.not_not, decide_eq_true_eq, z_sq, Option.bind_some, z_lits, z_n_add, z_n_mul, z_lt, z_le, z_eq, z_ne1, z_1ne, z_lt1, z_1lt, z_ltT, z_ltF, z_leT, z_leF, z_eqF, z_b_0, z_b_1, ↓reduceIte, eq_self, not_true_eq_false, not_false_eq_true, and_true, true_and, and_false, false_and, Nat.add_zero, Nat.zero_add]
theorem M_isTable_o {t : Int32} {σ : q_H} (ht : z_o t 3) : f_Mo_isTable t σ = some (z_n 0, σ) := by
  simp (disch := omega) only [f_Mo_isTable, or_true, true_or, or_false, false_or, z_b_T, z_b_F, Bool.false_eq_true, Classical.not_not, decide_eq_true_eq, z_sq, Option.bind_some, z_lits, z_n_add, z_n_mul, z_lt, z_le, z_eq, z_ne1, z_1ne, z_lt1, z_1lt, z_ltT, z_ltF, z_leT, z_leF, z_eqF, z_b_0, z_b_1, ↓reduceIte, eq_self, not_true_eq_false, not_false_eq_true, and_true, true_and, and_false, false_and, Nat.add_zero, Nat.zero_add]
  rcases z_oL ht with h | ⟨h1, h2⟩
  · simp (disch := omega) only [h, or_true, true_or, or_false, false_or, z_b_T, z_b_F, Bool.false_eq_true, Classical.not_not, decide_eq_true_eq, z_sq, Option.bind_some, z_lits, z_n_add, z_n_mul, z_lt, z_le, z_eq, z_ne1, z_1ne, z_lt1, z_1lt, z_ltT, z_ltF, z_leT, z_leF, z_eqF, z_b_0, z_b_1, ↓reduceIte, eq_self, not_true_eq_false, not_false_eq_true, and_true, true_and, and_false, false_and, Nat.add_zero, Nat.zero_add]
  · rcases z_tf (t < z_n 4) with h | h
    · have h3 := of_eq_true h
      have h4 := of_eq_true h2
      rw [Int32.lt_iff_toInt_lt, z_n_int (by omega)] at h3 h4
      omega
    · simp (disch := omega) only [h1, h, or_true, true_or, or_false, false_or, z_b_T, z_b_F, Bool.false_eq_true, Classical.not_not, decide_eq_true_eq, z_sq, Option.bind_some, z_lits, z_n_add, z_n_mul, z_lt, z_le, z_eq, z_ne1, z_1ne, z_lt1, z_1lt, z_ltT, z_ltF, z_leT, z_leF, z_eqF, z_b_0, z_b_1, ↓reduceIte, eq_self, not_true_eq_false, not_false_eq_true, and_true, true_and, and_false, false_and, Nat.add_zero, Nat.zero_add]
/-- wide: an AGE's span -/
def z_wd (x : Int32) : Nat := if ¬ x < z_n 10 ∧ x - x / z_n 5 * z_n 5 = z_n 0 then 4 else 0
theorem M_wide {x : Int32} {σ : q_H} : f_Mo_wide x σ = some (z_n (z_wd x), σ) := by
  simp (disch := omega) only [f_Mo_wide, or_true, true_or, or_false, false_or, z_b_T, z_b_F, Bool.false_eq_true, Classical.not_not, decide_eq_true_eq, z_sq, Option.bind_some, z_lits, z_n_add, z_n_mul, z_lt, z_le, z_eq, z_ne1, z_1ne, z_lt1, z_1lt, z_ltT, z_ltF, z_leT, z_leF, z_eqF, z_b_0, z_b_1, ↓reduceIte, eq_self, not_true_eq_false, not_false_eq_true, and_true, true_and, and_false, false_and, Nat.add_zero, Nat.zero_add]
  unfold z_wd
  rcases z_tf (x < z_n 10) with h1 | h1 <;> rcases z_tf (x - x / z_n 5 * z_n 5 = z_n 0) with h2 | h2 <;> simp (disch := omega) only [h1, h2, or_true, true_or, or_false, false_or, z_b_T, z_b_F, Bool.false_eq_true, Classical.not_not, decide_eq_true_eq, z_sq, Option.bind_some, z_lits, z_n_add, z_n_mul, z_lt, z_le, z_eq, z_ne1, z_1ne, z_lt1, z_1lt, z_ltT, z_ltF, z_leT, z_leF, z_eqF, z_b_0, z_b_1, ↓reduceIte, eq_self, not_true_eq_false, not_false_eq_true, and_true, true_and, and_false, false_and, Nat.add_zero, Nat.zero_add]
/-- a MARRIAGE's SORT -/
def z_so (I : z_MI) (J : z_MJ) (s l : Nat) : Nat :=
  if 0 < z_kin J (12 * s + l) (12 * s + z_hb I (12 * s + l)) then 2 - z_kin J (12 * s + l) (12 * s + z_hb I (12 * s + l))
  else if ¬ I 94 (12 * s + l) = I 93 (12 * s + l) then 4 else if I 95 (12 * s + l) &&& z_n 1 = z_n 1 then 3 else 2
theorem z_so_le (I : z_MI) (J : z_MJ) (s l : Nat) : z_so I J s l ≤ 4 := by
  unfold z_so
  split
  · omega
  · split
    · omega
    · split <;> omega
theorem z_wfW {I : z_MI} {s l : Nat} (hW : z_lW I) (hL : z_lL I) (hs : s < 24) (h : z_wf I s l = true) : z_th I s = true ∧ l < z_ln I s ∧ z_ln I s ≤ 12 ∧ I 93 (12 * s + l) = z_n (z_hb I (12 * s + l)) ∧ z_hb I (12 * s + l) < z_ln I s := by
  unfold z_wf at h
  obtain ⟨h1, h2, h3⟩ := of_decide_eq_true h
  exact ⟨h1, h2, (hL s (by omega)).2, (hW s hs l h2).resolve_left h3⟩
theorem M_husband {S : z_SH} {I : z_MI} {J : z_MJ} {P : z_MP} {n : Nat × Nat} (hS : z_St S) (hP : z_Pt P) {s l : Nat} (hs : s < 24) (hl : l < 12) (e : I 93 (12 * s + l) = z_n (z_hb I (12 * s + l))) : f_Mo_husband 83 (z_n s) (z_n l) (z_h S I J P n) = some (z_n (12 * s + z_hb I (12 * s + l)), z_h S I J P n) := by
  simp (disch := omega) only [f_Mo_husband, e, z_Mr hS hP, or_true, true_or, or_false, false_or, z_b_T, z_b_F, Bool.false_eq_true, Classical.not_not, decide_eq_true_eq, z_sq, Option.bind_some, z_lits, z_n_add, z_n_mul, z_lt, z_le, z_eq, z_ne1, z_1ne, z_lt1, z_1lt, z_ltT, z_ltF, z_leT, z_leF, z_eqF, z_b_0, z_b_1, ↓reduceIte, eq_self, not_true_eq_false, not_false_eq_true, and_true, true_and, and_false, false_and, Nat.add_zero, Nat.zero_add]
set_option maxRecDepth 100000 in
set_option maxHeartbeats 4000000 in
theorem M_sortOf {S : z_SH} {I : z_MI} {J : z_MJ} {P : z_MP} {n : Nat × Nat} (hS : z_St S) (hP : z_Pt P) {s l : Nat} (hs : s < 24) (hl : l < 12) (e : I 93 (12 * s + l) = z_n (z_hb I (12 * s + l))) (hb : z_hb I (12 * s + l) < 12) : f_Mo_sortOf 83 (z_n s) (z_n l) (z_h S I J P n) = some (z_n (z_so I J s l), z_h S I J P n) := by
  have hk := z_kin_le J (12 * s + l) (12 * s + z_hb I (12 * s + l))
  simp (disch := omega) only [f_Mo_sortOf, M_husband hS hP hs hl e, M_kinOf hS hP, z_Mr hS hP, or_true, true_or, or_false, false_or, z_b_T, z_b_F, Bool.false_eq_true, Classical.not_not, decide_eq_true_eq, z_sq, Option.bind_some, z_lits, z_n_add, z_n_mul, z_lt, z_le, z_eq, z_ne1, z_1ne, z_lt1, z_1lt, z_ltT, z_ltF, z_leT, z_leF, z_eqF, z_b_0, z_b_1, ↓reduceIte, eq_self, not_true_eq_false, not_false_eq_true, and_true, true_and, and_false, false_and, Nat.add_zero, Nat.zero_add]
  unfold z_so
  by_cases h0 : 0 < z_kin J (12 * s + l) (12 * s + z_hb I (12 * s + l))
  · simp (disch := omega) only [h0, z_n_sub, or_true, true_or, or_false, false_or, z_b_T, z_b_F, Bool.false_eq_true, Classical.not_not, decide_eq_true_eq, z_sq, Option.bind_some, z_lits, z_n_add, z_n_mul, z_lt, z_le, z_eq, z_ne1, z_1ne, z_lt1, z_1lt, z_ltT, z_ltF, z_leT, z_leF, z_eqF, z_b_0, z_b_1, ↓reduceIte, eq_self, not_true_eq_false, not_false_eq_true, and_true, true_and, and_false, false_and, Nat.add_zero, Nat.zero_add]
  · rcases z_tf (I 94 (12 * s + l) = I 93 (12 * s + l)) with h1 | h1 <;> rcases z_tf (I 95 (12 * s + l) &&& z_n 1 = z_n 1) with h2 | h2 <;> simp (disch := omega) only [h0, h1, h2, or_true, true_or, or_false, false_or, z_b_T, z_b_F, Bool.false_eq_true, Classical.not_not, decide_eq_true_eq, z_sq, Option.bind_some, z_lits, z_n_add, z_n_mul, z_lt, z_le, z_eq, z_ne1, z_1ne, z_lt1, z_1lt, z_ltT, z_ltF, z_leT, z_leF, z_eqF, z_b_0, z_b_1, ↓reduceIte, eq_self, not_true_eq_false, not_false_eq_true, and_true, true_and, and_false, false_and, Nat.add_zero, Nat.zero_add]
/-- other men or women that are FULL with one -/
def z_ot (I : z_MI) (J : z_MJ) (s at' : Nat) (w : Int32) (but i : Nat) : Nat :=
  if ¬ 12 * s + i = at' ∧ ¬ 12 * s + i = but ∧ I 91 (12 * s + i) = w ∧ z_kin J (12 * s + i) at' = 2 then 1 else 0
set_option maxRecDepth 100000 in
set_option maxHeartbeats 4000000 in
theorem M_others {S : z_SH} {I : z_MI} {J : z_MJ} {P : z_MP} {n : Nat × Nat} (hS : z_St S) (hP : z_Pt P) (hL : z_lL I) {s a b : Nat} {w : Int32} (hs : s < 24) (ha : a < 300) (hb : b < 300) : f_Mo_others 83 (z_n s) (z_n a) w (z_n b) (z_h S I J P n) = some (z_n (z_sum (z_ln I s) (z_ot I J s a w b)), z_h S I J P n) := by
  have h12 := (hL s (by omega)).2
  have hk := fun i => z_kin_le J (12 * s + i) a
  have h := z_run (fun m i => f_Mo_others_L9 83 (z_n s) (z_n a) w (z_n b) m (z_n (z_sum i (z_ot I J s a w b))) (z_n (12 * s + i)) (z_h S I J P n)) (z_ln I s) (r := some (z_n (z_sum (z_ln I s) (z_ot I J s a w b)), z_h S I J P n)) (by omega)
    (by
      intro m i hi
      have := hk i
      simp (disch := omega) only [f_Mo_others_L9, (hL s (by omega)).1, M_kinOf hS hP, z_sum_s, Nat.add_assoc, z_Mr hS hP, or_true, true_or, or_false, false_or, z_b_T, z_b_F, Bool.false_eq_true, Classical.not_not, decide_eq_true_eq, z_sq, Option.bind_some, z_lits, z_n_add, z_n_mul, z_lt, z_le, z_eq, z_ne1, z_1ne, z_lt1, z_1lt, z_ltT, z_ltF, z_leT, z_leF, z_eqF, z_b_0, z_b_1, ↓reduceIte, eq_self, not_true_eq_false, not_false_eq_true, and_true, true_and, and_false, false_and, Nat.add_zero, Nat.zero_add]
      unfold z_ot
      by_cases h1 : 12 * s + i = a
      · simp (disch := omega) only [h1, or_true, true_or, or_false, false_or, z_b_T, z_b_F, Bool.false_eq_true, Classical.not_not, decide_eq_true_eq, z_sq, Option.bind_some, z_lits, z_n_add, z_n_mul, z_lt, z_le, z_eq, z_ne1, z_1ne, z_lt1, z_1lt, z_ltT, z_ltF, z_leT, z_leF, z_eqF, z_b_0, z_b_1, ↓reduceIte, eq_self, not_true_eq_false, not_false_eq_true, and_true, true_and, and_false, false_and, Nat.add_zero, Nat.zero_add]
      · by_cases h2 : 12 * s + i = b
        · simp (disch := omega) only [h1, h2, or_true, true_or, or_false, false_or, z_b_T, z_b_F, Bool.false_eq_true, Classical.not_not, decide_eq_true_eq, z_sq, Option.bind_some, z_lits, z_n_add, z_n_mul, z_lt, z_le, z_eq, z_ne1, z_1ne, z_lt1, z_1lt, z_ltT, z_ltF, z_leT, z_leF, z_eqF, z_b_0, z_b_1, ↓reduceIte, eq_self, not_true_eq_false, not_false_eq_true, and_true, true_and, and_false, false_and, Nat.add_zero, Nat.zero_add]
        · rcases z_tf (I 91 (12 * s + i) = w) with h3 | h3
          · by_cases h4 : z_kin J (12 * s + i) a = 2 <;> simp (disch := omega) only [h1, h2, h3, h4, or_true, true_or, or_false, false_or, z_b_T, z_b_F, Bool.false_eq_true, Classical.not_not, decide_eq_true_eq, z_sq, Option.bind_some, z_lits, z_n_add, z_n_mul, z_lt, z_le, z_eq, z_ne1, z_1ne, z_lt1, z_1lt, z_ltT, z_ltF, z_leT, z_leF, z_eqF, z_b_0, z_b_1, ↓reduceIte, eq_self, not_true_eq_false, not_false_eq_true, and_true, true_and, and_false, false_and, Nat.add_zero, Nat.zero_add]
          · simp (disch := omega) only [h1, h2, h3, or_true, true_or, or_false, false_or, z_b_T, z_b_F, Bool.false_eq_true, Classical.not_not, decide_eq_true_eq, z_sq, Option.bind_some, z_lits, z_n_add, z_n_mul, z_lt, z_le, z_eq, z_ne1, z_1ne, z_lt1, z_1lt, z_ltT, z_ltF, z_leT, z_leF, z_eqF, z_b_0, z_b_1, ↓reduceIte, eq_self, not_true_eq_false, not_false_eq_true, and_true, true_and, and_false, false_and, Nat.add_zero, Nat.zero_add])
    (by
      intro m
      simp (disch := omega) only [f_Mo_others_L9, (hL s (by omega)).1, z_Mr hS hP, or_true, true_or, or_false, false_or, z_b_T, z_b_F, Bool.false_eq_true, Classical.not_not, decide_eq_true_eq, z_sq, Option.bind_some, z_lits, z_n_add, z_n_mul, z_lt, z_le, z_eq, z_ne1, z_1ne, z_lt1, z_1lt, z_ltT, z_ltF, z_leT, z_leF, z_eqF, z_b_0, z_b_1, ↓reduceIte, eq_self, not_true_eq_false, not_false_eq_true, and_true, true_and, and_false, false_and, Nat.add_zero, Nat.zero_add])
  simp only [z_sum_0, Nat.add_zero] at h
  simp (disch := omega) only [f_Mo_others, h, or_true, true_or, or_false, false_or, z_b_T, z_b_F, Bool.false_eq_true, Classical.not_not, decide_eq_true_eq, z_sq, Option.bind_some, z_lits, z_n_add, z_n_mul, z_lt, z_le, z_eq, z_ne1, z_1ne, z_lt1, z_1lt, z_ltT, z_ltF, z_leT, z_leF, z_eqF, z_b_0, z_b_1, ↓reduceIte, eq_self, not_true_eq_false, not_false_eq_true, and_true, true_and, and_false, false_and, Nat.add_zero, Nat.zero_add]
