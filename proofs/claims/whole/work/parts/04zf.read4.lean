/-! says, readings. -/
section
variable {S : z_SH} {I : z_MI} {J : z_MJ} {P : z_MP} {K : Nat → Bool} {n : Nat × Nat}
def r_sy (I : z_MI) (J : z_MJ) (a b i : Nat) : Nat := if r_a I J i * b < a * r_b I J i then 0 else 1
theorem z_wi9 {b : Int32} {N : Nat} (hN : N < 1000000) : (¬ b < z_n 1 ∧ ¬ z_n N < b) ↔ ∃ k, 1 ≤ k ∧ k ≤ N ∧ b = z_n k := by
  constructor
  · intro ⟨h1, h2⟩
    rcases z_in b N (by omega) with ⟨k, hk, rfl⟩ | h
    · rw [z_lt (by omega) (by omega)] at h1
      exact ⟨k, by omega, hk, rfl⟩
    · rcases h with h | h
      · exfalso
        apply h1
        rw [Int32.lt_iff_toInt_lt, z_n_int (by omega)] at h ⊢
        omega
      · exact absurd h h2
  · rintro ⟨k, h1, h2, rfl⟩
    rw [z_lt (by omega) (by omega), z_lt (by omega) (by omega)]
    omega
set_option maxRecDepth 100000 in
set_option maxHeartbeats 4000000 in
theorem X_says (B : z_B S I J P K n.1) (a b : Int32) : z_pr (f_Rs_says 8 a b) (f_Mo_says 83 a b) S I J P K n := by
  have hS0 := B.qS
  obtain ⟨S', I', J', P', h1, g, hS, hP, v, I2, h2, m, h58, w⟩ := X_found B
  obtain ⟨f1, f2, f3, f4⟩ := r_facts B
  have bd : n.1 ≤ (n.1 + 2, n.2 + 16).1 ∧ (n.1 + 2, n.2 + 16).1 ≤ n.1 + 60 ∧ (n.1 + 2, n.2 + 16).2 ≤ n.2 + 3000 := ⟨by simp, by simp, by simp⟩
  rcases z_in a 99 (by omega) with ⟨x, hx, rfl⟩ | hao
  · by_cases hb : ¬ b < z_n 1 ∧ ¬ z_n 99 < b
    · obtain ⟨y, hy1, hy2, rfl⟩ := (z_wi9 (by omega)).mp hb
      by_cases h0 : r_n I J = 0
      · refine z_pr.mk' (r := -z_n 1) (n' := (n.1 + 2, n.2 + 16)) g bd m ?_ ?_
        · simp (disch := omega) only [f_Rs_says, C_gat8 hS0, h1, C_in, C_isFrom, h0, or_true, true_or, or_false, false_or, z_b_T, z_b_F, Bool.false_eq_true, Classical.not_not, decide_eq_true_eq, z_sq, Option.bind_some, z_lits, z_n_add, z_n_mul, z_lt, z_le, z_eq, z_ne1, z_1ne, z_lt1, z_1lt, z_ltT, z_ltF, z_leT, z_leF, z_eqF, z_b_0, z_b_1, ↓reduceIte, eq_self, not_true_eq_false, not_false_eq_true, and_true, true_and, and_false, false_and, Nat.add_zero, Nat.zero_add]
        · simp (disch := omega) only [f_Mo_says, M_thr hS, z_ob (s_83 hS), h2, M_win, M_within, z_Mr hS hP, h58, h0, or_true, true_or, or_false, false_or, z_b_T, z_b_F, Bool.false_eq_true, Classical.not_not, decide_eq_true_eq, z_sq, Option.bind_some, z_lits, z_n_add, z_n_mul, z_lt, z_le, z_eq, z_ne1, z_1ne, z_lt1, z_1lt, z_ltT, z_ltF, z_leT, z_leF, z_eqF, z_b_0, z_b_1, ↓reduceIte, eq_self, not_true_eq_false, not_false_eq_true, and_true, true_and, and_false, false_and, Nat.add_zero, Nat.zero_add]
      · have e11 : ∀ I J n, q_gr (q_gf (z_h S' I J P' n) 0 8 11) = some 41 := fun _ _ _ => z_gr (s_8 hS) rfl (p_8_11 hP)
        have e12 : ∀ I J n, q_gr (q_gf (z_h S' I J P' n) 0 8 12) = some 42 := fun _ _ _ => z_gr (s_8 hS) rfl (p_8_12 hP)
        have mul : ∀ i, i < r_n I J → r_a I J i * y ≤ 288 * 99 ∧ x * r_b I J i ≤ 99 * 288 := fun i _ => ⟨Nat.mul_le_mul (f2 i) hy2, Nat.mul_le_mul hx (f3 i)⟩
        have hc := z_run (fun m i => f_Rs_says_L37 8 (z_n x) (z_n y) (z_n (r_n I J)) m (z_n (z_sum i (r_sy I J x y))) (z_n i) (z_h S' I' J' P' (n.1 + 2, n.2 + 16))) (r_n I J) (r := some (z_n (z_sum (r_n I J) (r_sy I J x y)), z_h S' I' J' P' (n.1 + 2, n.2 + 16))) (by omega)
          (by
            intro m i hi
            obtain ⟨v1, v2⟩ := v i hi
            obtain ⟨l1, l2⟩ := mul i hi
            by_cases q : r_a I J i * y < x * r_b I J i
            · have e : r_sy I J x y i = 0 := if_pos q
              simp (disch := omega) only [f_Rs_says_L37, e11, e12, z_Otr hS hP, v1, v2, q, z_sum_s, e, or_true, true_or, or_false, false_or, z_b_T, z_b_F, Bool.false_eq_true, Classical.not_not, decide_eq_true_eq, z_sq, Option.bind_some, z_lits, z_n_add, z_n_mul, z_lt, z_le, z_eq, z_ne1, z_1ne, z_lt1, z_1lt, z_ltT, z_ltF, z_leT, z_leF, z_eqF, z_b_0, z_b_1, ↓reduceIte, eq_self, not_true_eq_false, not_false_eq_true, and_true, true_and, and_false, false_and, Nat.add_zero, Nat.zero_add]
            · have e : r_sy I J x y i = 1 := if_neg q
              simp (disch := omega) only [f_Rs_says_L37, e11, e12, z_Otr hS hP, v1, v2, q, z_sum_s, e, or_true, true_or, or_false, false_or, z_b_T, z_b_F, Bool.false_eq_true, Classical.not_not, decide_eq_true_eq, z_sq, Option.bind_some, z_lits, z_n_add, z_n_mul, z_lt, z_le, z_eq, z_ne1, z_1ne, z_lt1, z_1lt, z_ltT, z_ltF, z_leT, z_leF, z_eqF, z_b_0, z_b_1, ↓reduceIte, eq_self, not_true_eq_false, not_false_eq_true, and_true, true_and, and_false, false_and, Nat.add_zero, Nat.zero_add])
          (by
            intro m
            simp (disch := omega) only [f_Rs_says_L37, or_true, true_or, or_false, false_or, z_b_T, z_b_F, Bool.false_eq_true, Classical.not_not, decide_eq_true_eq, z_sq, Option.bind_some, z_lits, z_n_add, z_n_mul, z_lt, z_le, z_eq, z_ne1, z_1ne, z_lt1, z_1lt, z_ltT, z_ltF, z_leT, z_leF, z_eqF, z_b_0, z_b_1, ↓reduceIte, eq_self, not_true_eq_false, not_false_eq_true, and_true, true_and, and_false, false_and, Nat.add_zero, Nat.zero_add])
        have hm := z_run (fun m i => f_Mo_says_L43 83 (z_n x) (z_n y) m (z_n (z_sum i (r_sy I J x y))) (z_n i) (z_h S' I2 J' P' (n.1 + 2, n.2 + 16))) (r_n I J) (r := some (z_n (z_sum (r_n I J) (r_sy I J x y)), z_h S' I2 J' P' (n.1 + 2, n.2 + 16))) (by omega)
          (by
            intro m i hi
            obtain ⟨v1, v2⟩ := w i hi
            obtain ⟨l1, l2⟩ := mul i hi
            by_cases q : r_a I J i * y < x * r_b I J i
            · have e : r_sy I J x y i = 0 := if_pos q
              simp (disch := omega) only [f_Mo_says_L43, z_Mr hS hP, h58, v1, v2, q, z_sum_s, e, or_true, true_or, or_false, false_or, z_b_T, z_b_F, Bool.false_eq_true, Classical.not_not, decide_eq_true_eq, z_sq, Option.bind_some, z_lits, z_n_add, z_n_mul, z_lt, z_le, z_eq, z_ne1, z_1ne, z_lt1, z_1lt, z_ltT, z_ltF, z_leT, z_leF, z_eqF, z_b_0, z_b_1, ↓reduceIte, eq_self, not_true_eq_false, not_false_eq_true, and_true, true_and, and_false, false_and, Nat.add_zero, Nat.zero_add]
            · have e : r_sy I J x y i = 1 := if_neg q
              simp (disch := omega) only [f_Mo_says_L43, z_Mr hS hP, h58, v1, v2, q, z_sum_s, e, or_true, true_or, or_false, false_or, z_b_T, z_b_F, Bool.false_eq_true, Classical.not_not, decide_eq_true_eq, z_sq, Option.bind_some, z_lits, z_n_add, z_n_mul, z_lt, z_le, z_eq, z_ne1, z_1ne, z_lt1, z_1lt, z_ltT, z_ltF, z_leT, z_leF, z_eqF, z_b_0, z_b_1, ↓reduceIte, eq_self, not_true_eq_false, not_false_eq_true, and_true, true_and, and_false, false_and, Nat.add_zero, Nat.zero_add])
          (by
            intro m
            simp (disch := omega) only [f_Mo_says_L43, z_Mr hS hP, h58, or_true, true_or, or_false, false_or, z_b_T, z_b_F, Bool.false_eq_true, Classical.not_not, decide_eq_true_eq, z_sq, Option.bind_some, z_lits, z_n_add, z_n_mul, z_lt, z_le, z_eq, z_ne1, z_1ne, z_lt1, z_1lt, z_ltT, z_ltF, z_leT, z_leF, z_eqF, z_b_0, z_b_1, ↓reduceIte, eq_self, not_true_eq_false, not_false_eq_true, and_true, true_and, and_false, false_and, Nat.add_zero, Nat.zero_add])
        simp only [z_sum_0] at hc hm
        have hle : z_sum (r_n I J) (r_sy I J x y) ≤ r_n I J * 1 := z_sum_le _ 1 _ (fun i _ => by unfold r_sy; split <;> omega)
        generalize z_sum (r_n I J) (r_sy I J x y) = N at *
        refine z_pr.mk' (r := if N = r_n I J then z_n 2 else if 0 < N then z_n 1 else z_n 0) (n' := (n.1 + 2, n.2 + 16)) g bd m ?_ ?_
        · by_cases q1 : N = r_n I J
          · simp (disch := omega) only [f_Rs_says, C_gat8 hS0, h1, C_in, C_isFrom, h0, hc, q1, or_true, true_or, or_false, false_or, z_b_T, z_b_F, Bool.false_eq_true, Classical.not_not, decide_eq_true_eq, z_sq, Option.bind_some, z_lits, z_n_add, z_n_mul, z_lt, z_le, z_eq, z_ne1, z_1ne, z_lt1, z_1lt, z_ltT, z_ltF, z_leT, z_leF, z_eqF, z_b_0, z_b_1, ↓reduceIte, eq_self, not_true_eq_false, not_false_eq_true, and_true, true_and, and_false, false_and, Nat.add_zero, Nat.zero_add]
          · by_cases q2 : 0 < N <;> simp (disch := omega) only [f_Rs_says, C_gat8 hS0, h1, C_in, C_isFrom, h0, hc, q1, q2, or_true, true_or, or_false, false_or, z_b_T, z_b_F, Bool.false_eq_true, Classical.not_not, decide_eq_true_eq, z_sq, Option.bind_some, z_lits, z_n_add, z_n_mul, z_lt, z_le, z_eq, z_ne1, z_1ne, z_lt1, z_1lt, z_ltT, z_ltF, z_leT, z_leF, z_eqF, z_b_0, z_b_1, ↓reduceIte, eq_self, not_true_eq_false, not_false_eq_true, and_true, true_and, and_false, false_and, Nat.add_zero, Nat.zero_add]
        · by_cases q1 : N = r_n I J
          · simp (disch := omega) only [f_Mo_says, M_thr hS, z_ob (s_83 hS), h2, M_win, M_within, z_Mr hS hP, h58, h0, hm, q1, or_true, true_or, or_false, false_or, z_b_T, z_b_F, Bool.false_eq_true, Classical.not_not, decide_eq_true_eq, z_sq, Option.bind_some, z_lits, z_n_add, z_n_mul, z_lt, z_le, z_eq, z_ne1, z_1ne, z_lt1, z_1lt, z_ltT, z_ltF, z_leT, z_leF, z_eqF, z_b_0, z_b_1, ↓reduceIte, eq_self, not_true_eq_false, not_false_eq_true, and_true, true_and, and_false, false_and, Nat.add_zero, Nat.zero_add]
          · by_cases q2 : 0 < N <;> simp (disch := omega) only [f_Mo_says, M_thr hS, z_ob (s_83 hS), h2, M_win, M_within, z_Mr hS hP, h58, h0, hm, q1, q2, or_true, true_or, or_false, false_or, z_b_T, z_b_F, Bool.false_eq_true, Classical.not_not, decide_eq_true_eq, z_sq, Option.bind_some, z_lits, z_n_add, z_n_mul, z_lt, z_le, z_eq, z_ne1, z_1ne, z_lt1, z_1lt, z_ltT, z_ltF, z_leT, z_leF, z_eqF, z_b_0, z_b_1, ↓reduceIte, eq_self, not_true_eq_false, not_false_eq_true, and_true, true_and, and_false, false_and, Nat.add_zero, Nat.zero_add]
    · refine z_pr.mk' (r := -z_n 1) (n' := (n.1 + 2, n.2 + 16)) g bd m ?_ ?_
      · simp (disch := omega) only [f_Rs_says, C_gat8 hS0, h1, C_in, C_isFrom, hb, or_true, true_or, or_false, false_or, z_b_T, z_b_F, Bool.false_eq_true, Classical.not_not, decide_eq_true_eq, z_sq, Option.bind_some, z_lits, z_n_add, z_n_mul, z_lt, z_le, z_eq, z_ne1, z_1ne, z_lt1, z_1lt, z_ltT, z_ltF, z_leT, z_leF, z_eqF, z_b_0, z_b_1, ↓reduceIte, eq_self, not_true_eq_false, not_false_eq_true, and_true, true_and, and_false, false_and, Nat.add_zero, Nat.zero_add]
      · simp (disch := omega) only [f_Mo_says, M_thr hS, z_ob (s_83 hS), h2, M_win, M_within, hb, or_true, true_or, or_false, false_or, z_b_T, z_b_F, Bool.false_eq_true, Classical.not_not, decide_eq_true_eq, z_sq, Option.bind_some, z_lits, z_n_add, z_n_mul, z_lt, z_le, z_eq, z_ne1, z_1ne, z_lt1, z_1lt, z_ltT, z_ltF, z_leT, z_leF, z_eqF, z_b_0, z_b_1, ↓reduceIte, eq_self, not_true_eq_false, not_false_eq_true, and_true, true_and, and_false, false_and, Nat.add_zero, Nat.zero_add]
  · refine z_pr.mk' (r := -z_n 1) (n' := (n.1 + 2, n.2 + 16)) g bd m ?_ ?_
    · simp (disch := omega) only [f_Rs_says, C_gat8 hS0, h1, C_out hao, or_true, true_or, or_false, false_or, z_b_T, z_b_F, Bool.false_eq_true, Classical.not_not, decide_eq_true_eq, z_sq, Option.bind_some, z_lits, z_n_add, z_n_mul, z_lt, z_le, z_eq, z_ne1, z_1ne, z_lt1, z_1lt, z_ltT, z_ltF, z_leT, z_leF, z_eqF, z_b_0, z_b_1, ↓reduceIte, eq_self, not_true_eq_false, not_false_eq_true, and_true, true_and, and_false, false_and, Nat.add_zero, Nat.zero_add]
    · simp (disch := omega) only [f_Mo_says, M_thr hS, z_ob (s_83 hS), h2, M_wout hao, or_true, true_or, or_false, false_or, z_b_T, z_b_F, Bool.false_eq_true, Classical.not_not, decide_eq_true_eq, z_sq, Option.bind_some, z_lits, z_n_add, z_n_mul, z_lt, z_le, z_eq, z_ne1, z_1ne, z_lt1, z_1lt, z_ltT, z_ltF, z_leT, z_leF, z_eqF, z_b_0, z_b_1, ↓reduceIte, eq_self, not_true_eq_false, not_false_eq_true, and_true, true_and, and_false, false_and, Nat.add_zero, Nat.zero_add]
/-- the least, the greatest of the first ones -/
def r_ut (I : z_MI) (J : z_MJ) (gr : Bool) : Nat → Nat
  | 0 => 0
  | k + 1 => if (if gr = true then r_a I J (r_ut I J gr k) * r_b I J (k + 1) < r_a I J (k + 1) * r_b I J (r_ut I J gr k) else r_a I J (k + 1) * r_b I J (r_ut I J gr k) < r_a I J (r_ut I J gr k) * r_b I J (k + 1)) then k + 1 else r_ut I J gr k
theorem r_ut_le (I : z_MI) (J : z_MJ) (gr : Bool) : ∀ k, r_ut I J gr k ≤ k
  | 0 => Nat.le_refl _
  | k + 1 => by
    have := r_ut_le I J gr k
    have g : ∀ (p : Prop) [Decidable p], (if p then k + 1 else r_ut I J gr k) ≤ k + 1 := by
      intro p _
      split <;> omega
    rw [r_ut]
    exact g _
theorem z_dif {p q : Nat} (hp : p ≤ 100000) (hq : q ≤ 100000) : (z_n p - z_n q < z_n 0) = (p < q) ∧ (z_n 0 < z_n p - z_n q) = (q < p) := by
  have e : z_n p - z_n q = z_i ((p : Int) - q) := by rw [z_i_n, z_i_n, z_i_sub]
  rw [e, z_i_n 0, z_i_lt (by omega) (by omega) (by omega) (by omega), z_i_lt (by omega) (by omega) (by omega) (by omega)]
  exact ⟨propext ⟨fun h => by omega, fun h => by omega⟩, propext ⟨fun h => by omega, fun h => by omega⟩⟩
set_option maxRecDepth 100000 in
set_option maxHeartbeats 4000000 in
theorem X_readings (B : z_B S I J P K n.1) (d : Int32) : z_pr (f_Rs_readings 8 d) (f_Mo_readings 83 d) S I J P K n := by
  have hS0 := B.qS
  have hn := B.qn
  obtain ⟨S', I', J', P', h1, g, hS, hP, v, I2, h2, m, h58, w⟩ := X_found B
  obtain ⟨f1, f2, f3, f4⟩ := r_facts B
  have bd : n.1 ≤ (n.1 + 2, n.2 + 16).1 ∧ (n.1 + 2, n.2 + 16).1 ≤ n.1 + 60 ∧ (n.1 + 2, n.2 + 16).2 ≤ n.2 + 3000 := ⟨by simp, by simp, by simp⟩
  have m0 : z_mf I' J' (z_up I' 83 0 (z_n 0)) J' := z_mf.up rfl
  rcases z_in d 6 (by omega) with ⟨x, hx, rfl⟩ | ho
  · by_cases hx0 : x = 0
    · subst hx0
      refine z_pr.mk' (r := z_n (r_n I J)) (n' := (n.1 + 2, n.2 + 16)) g bd m ?_ ?_
      · simp (disch := omega) only [f_Rs_readings, C_gat8 hS0, h1, or_true, true_or, or_false, false_or, z_b_T, z_b_F, Bool.false_eq_true, Classical.not_not, decide_eq_true_eq, z_sq, Option.bind_some, z_lits, z_n_add, z_n_mul, z_lt, z_le, z_eq, z_ne1, z_1ne, z_lt1, z_1lt, z_ltT, z_ltF, z_leT, z_leF, z_eqF, z_b_0, z_b_1, ↓reduceIte, eq_self, not_true_eq_false, not_false_eq_true, and_true, true_and, and_false, false_and, Nat.add_zero, Nat.zero_add]
      · simp (disch := omega) only [f_Mo_readings, M_thr hS, M_win, z_ob (s_83 hS), h2, z_Mr hS hP, h58, or_true, true_or, or_false, false_or, z_b_T, z_b_F, Bool.false_eq_true, Classical.not_not, decide_eq_true_eq, z_sq, Option.bind_some, z_lits, z_n_add, z_n_mul, z_lt, z_le, z_eq, z_ne1, z_1ne, z_lt1, z_1lt, z_ltT, z_ltF, z_leT, z_leF, z_eqF, z_b_0, z_b_1, ↓reduceIte, eq_self, not_true_eq_false, not_false_eq_true, and_true, true_and, and_false, false_and, Nat.add_zero, Nat.zero_add]
    · by_cases h0 : r_n I J = 0
      · refine z_pr.mk' (r := -z_n 1) (n' := (n.1 + 2, n.2 + 16)) g bd m ?_ ?_
        · simp (disch := omega) only [f_Rs_readings, C_gat8 hS0, h1, C_isFrom, hx0, h0, or_true, true_or, or_false, false_or, z_b_T, z_b_F, Bool.false_eq_true, Classical.not_not, decide_eq_true_eq, z_sq, Option.bind_some, z_lits, z_n_add, z_n_mul, z_lt, z_le, z_eq, z_ne1, z_1ne, z_lt1, z_1lt, z_ltT, z_ltF, z_leT, z_leF, z_eqF, z_b_0, z_b_1, ↓reduceIte, eq_self, not_true_eq_false, not_false_eq_true, and_true, true_and, and_false, false_and, Nat.add_zero, Nat.zero_add]
        · simp (disch := omega) only [f_Mo_readings, M_thr hS, M_win, z_ob (s_83 hS), h2, z_Mr hS hP, h58, hx0, h0, or_true, true_or, or_false, false_or, z_b_T, z_b_F, Bool.false_eq_true, Classical.not_not, decide_eq_true_eq, z_sq, Option.bind_some, z_lits, z_n_add, z_n_mul, z_lt, z_le, z_eq, z_ne1, z_1ne, z_lt1, z_1lt, z_ltT, z_ltF, z_leT, z_leF, z_eqF, z_b_0, z_b_1, ↓reduceIte, eq_self, not_true_eq_false, not_false_eq_true, and_true, true_and, and_false, false_and, Nat.add_zero, Nat.zero_add]
      · have e11 : ∀ I J n, q_gr (q_gf (z_h S' I J P' n) 0 8 11) = some 41 := fun _ _ _ => z_gr (s_8 hS) rfl (p_8_11 hP)
        have e12 : ∀ I J n, q_gr (q_gf (z_h S' I J P' n) 0 8 12) = some 42 := fun _ _ _ => z_gr (s_8 hS) rfl (p_8_12 hP)
        have mul : ∀ i j, r_a I J i * r_b I J j ≤ 288 * 288 := fun i j => Nat.mul_le_mul (f2 i) (f3 j)
        obtain ⟨gr, hgr⟩ : ∃ gr : Bool, gr = decide (3 < x) := ⟨_, rfl⟩
        have hut := r_ut_le I J gr (r_n I J - 1)
        -- the class's search
        have hc := z_run (fun m i => f_Rs_findUtmost_L5 8 (z_n (r_n I J)) (if 3 < x then z_n 1 else z_n 0) m (z_n (r_ut I J gr i)) (z_n (i + 1)) (z_h S' I' J' P' (n.1 + 2, n.2 + 16))) (r_n I J - 1) (r := some (z_n (r_ut I J gr (r_n I J - 1)), z_h S' I' J' P' (n.1 + 2, n.2 + 16))) (by omega)
          (by
            intro m i hi
            have l := r_ut_le I J gr i
            obtain ⟨v1, v2⟩ := v (i + 1) (by omega)
            obtain ⟨v3, v4⟩ := v (r_ut I J gr i) (by omega)
            have p1 := mul (i + 1) (r_ut I J gr i)
            have p2 := mul (r_ut I J gr i) (i + 1)
            obtain ⟨d1, d2⟩ := z_dif (p := r_a I J (i + 1) * r_b I J (r_ut I J gr i)) (q := r_a I J (r_ut I J gr i) * r_b I J (i + 1)) (by omega) (by omega)
            by_cases h3 : 3 < x
            · have hd : gr = true := by rw [hgr]; exact decide_eq_true h3
              subst hd
              simp only [h3, if_true]
              by_cases q : r_a I J (r_ut I J true i) * r_b I J (i + 1) < r_a I J (i + 1) * r_b I J (r_ut I J true i)
              · have e : r_ut I J true (i + 1) = i + 1 := by rw [r_ut]; simp only [if_true, if_pos q]
                simp (disch := omega) only [f_Rs_findUtmost_L5, e11, e12, z_Otr hS hP, v1, v2, v3, v4, d2, q, e, or_true, true_or, or_false, false_or, z_b_T, z_b_F, Bool.false_eq_true, Classical.not_not, decide_eq_true_eq, z_sq, Option.bind_some, z_lits, z_n_add, z_n_mul, z_lt, z_le, z_eq, z_ne1, z_1ne, z_lt1, z_1lt, z_ltT, z_ltF, z_leT, z_leF, z_eqF, z_b_0, z_b_1, ↓reduceIte, eq_self, not_true_eq_false, not_false_eq_true, and_true, true_and, and_false, false_and, Nat.add_zero, Nat.zero_add]
              · have e : r_ut I J true (i + 1) = r_ut I J true i := by rw [r_ut]; simp only [if_true, if_neg q]
                simp (disch := omega) only [f_Rs_findUtmost_L5, e11, e12, z_Otr hS hP, v1, v2, v3, v4, d2, q, e, or_true, true_or, or_false, false_or, z_b_T, z_b_F, Bool.false_eq_true, Classical.not_not, decide_eq_true_eq, z_sq, Option.bind_some, z_lits, z_n_add, z_n_mul, z_lt, z_le, z_eq, z_ne1, z_1ne, z_lt1, z_1lt, z_ltT, z_ltF, z_leT, z_leF, z_eqF, z_b_0, z_b_1, ↓reduceIte, eq_self, not_true_eq_false, not_false_eq_true, and_true, true_and, and_false, false_and, Nat.add_zero, Nat.zero_add]
            · have hd : gr = false := by rw [hgr]; exact decide_eq_false h3
              subst hd
              simp only [h3, if_false]
              by_cases q : r_a I J (i + 1) * r_b I J (r_ut I J false i) < r_a I J (r_ut I J false i) * r_b I J (i + 1)
              · have e : r_ut I J false (i + 1) = i + 1 := by rw [r_ut]; simp only [Bool.false_eq_true, if_false, if_pos q]
                simp (disch := omega) only [f_Rs_findUtmost_L5, e11, e12, z_Otr hS hP, v1, v2, v3, v4, d1, q, e, or_true, true_or, or_false, false_or, z_b_T, z_b_F, Bool.false_eq_true, Classical.not_not, decide_eq_true_eq, z_sq, Option.bind_some, z_lits, z_n_add, z_n_mul, z_lt, z_le, z_eq, z_ne1, z_1ne, z_lt1, z_1lt, z_ltT, z_ltF, z_leT, z_leF, z_eqF, z_b_0, z_b_1, ↓reduceIte, eq_self, not_true_eq_false, not_false_eq_true, and_true, true_and, and_false, false_and, Nat.add_zero, Nat.zero_add]
              · have e : r_ut I J false (i + 1) = r_ut I J false i := by rw [r_ut]; simp only [Bool.false_eq_true, if_false, if_neg q]
                simp (disch := omega) only [f_Rs_findUtmost_L5, e11, e12, z_Otr hS hP, v1, v2, v3, v4, d1, q, e, or_true, true_or, or_false, false_or, z_b_T, z_b_F, Bool.false_eq_true, Classical.not_not, decide_eq_true_eq, z_sq, Option.bind_some, z_lits, z_n_add, z_n_mul, z_lt, z_le, z_eq, z_ne1, z_1ne, z_lt1, z_1lt, z_ltT, z_ltF, z_leT, z_leF, z_eqF, z_b_0, z_b_1, ↓reduceIte, eq_self, not_true_eq_false, not_false_eq_true, and_true, true_and, and_false, false_and, Nat.add_zero, Nat.zero_add])
          (by
            intro m
            simp (disch := omega) only [f_Rs_findUtmost_L5, or_true, true_or, or_false, false_or, z_b_T, z_b_F, Bool.false_eq_true, Classical.not_not, decide_eq_true_eq, z_sq, Option.bind_some, z_lits, z_n_add, z_n_mul, z_lt, z_le, z_eq, z_ne1, z_1ne, z_lt1, z_1lt, z_ltT, z_ltF, z_leT, z_leF, z_eqF, z_b_0, z_b_1, ↓reduceIte, eq_self, not_true_eq_false, not_false_eq_true, and_true, true_and, and_false, false_and, Nat.add_zero, Nat.zero_add])
        have hc' : f_Rs_findUtmost_L5 8 (z_n (r_n I J)) (if 3 < x then z_n 1 else z_n 0) q_FU (z_n 0) (z_n 1) (z_h S' I' J' P' (n.1 + 2, n.2 + 16)) = _ := hc
        -- the reference's
        have mgen : ∀ (S9 : z_SH) (I9 : z_MI) (J9 : z_MJ) (P9 : z_MP) (n9 : Nat × Nat), z_St S9 → z_Pt P9 → I9 83 58 = z_n (r_n I J) → (∀ j, j < r_n I J → I9 123 j = z_n (r_a I J j) ∧ I9 124 j = z_n (r_b I J j)) → f_Mo_readings_L51 83 (z_n x) q_FU (z_n 0) (z_n 1) (z_h S9 I9 J9 P9 n9) = some (z_n (r_ut I J gr (r_n I J - 1)), z_h S9 I9 J9 P9 n9) := by
          intro S9 I9 J9 P9 n9 hS9 hP9 h589 w9
          have hm := z_run (fun m i => f_Mo_readings_L51 83 (z_n x) m (z_n (r_ut I J gr i)) (z_n (i + 1)) (z_h S9 I9 J9 P9 n9)) (r_n I J - 1) (r := some (z_n (r_ut I J gr (r_n I J - 1)), z_h S9 I9 J9 P9 n9)) (by omega)
            (by
              intro m i hi
              have l := r_ut_le I J gr i
              obtain ⟨v1, v2⟩ := w9 (i + 1) (by omega)
              obtain ⟨v3, v4⟩ := w9 (r_ut I J gr i) (by omega)
              have p1 := mul (i + 1) (r_ut I J gr i)
              have p2 := mul (r_ut I J gr i) (i + 1)
              by_cases h3 : 3 < x
              · have hd : gr = true := by rw [hgr]; exact decide_eq_true h3
                subst hd
                by_cases q : r_a I J (r_ut I J true i) * r_b I J (i + 1) < r_a I J (i + 1) * r_b I J (r_ut I J true i)
                · have e : r_ut I J true (i + 1) = i + 1 := by rw [r_ut]; simp only [if_true, if_pos q]
                  simp (disch := omega) only [f_Mo_readings_L51, f_Mo_isLess, z_Mr hS9 hP9, h589, v1, v2, v3, v4, h3, q, e, or_true, true_or, or_false, false_or, z_b_T, z_b_F, Bool.false_eq_true, Classical.not_not, decide_eq_true_eq, z_sq, Option.bind_some, z_lits, z_n_add, z_n_mul, z_lt, z_le, z_eq, z_ne1, z_1ne, z_lt1, z_1lt, z_ltT, z_ltF, z_leT, z_leF, z_eqF, z_b_0, z_b_1, ↓reduceIte, eq_self, not_true_eq_false, not_false_eq_true, and_true, true_and, and_false, false_and, Nat.add_zero, Nat.zero_add]
                · have e : r_ut I J true (i + 1) = r_ut I J true i := by rw [r_ut]; simp only [if_true, if_neg q]
                  simp (disch := omega) only [f_Mo_readings_L51, f_Mo_isLess, z_Mr hS9 hP9, h589, v1, v2, v3, v4, h3, q, e, or_true, true_or, or_false, false_or, z_b_T, z_b_F, Bool.false_eq_true, Classical.not_not, decide_eq_true_eq, z_sq, Option.bind_some, z_lits, z_n_add, z_n_mul, z_lt, z_le, z_eq, z_ne1, z_1ne, z_lt1, z_1lt, z_ltT, z_ltF, z_leT, z_leF, z_eqF, z_b_0, z_b_1, ↓reduceIte, eq_self, not_true_eq_false, not_false_eq_true, and_true, true_and, and_false, false_and, Nat.add_zero, Nat.zero_add]
              · have hd : gr = false := by rw [hgr]; exact decide_eq_false h3
                subst hd
                by_cases q : r_a I J (i + 1) * r_b I J (r_ut I J false i) < r_a I J (r_ut I J false i) * r_b I J (i + 1)
                · have e : r_ut I J false (i + 1) = i + 1 := by rw [r_ut]; simp only [Bool.false_eq_true, if_false, if_pos q]
                  simp (disch := omega) only [f_Mo_readings_L51, f_Mo_isLess, z_Mr hS9 hP9, h589, v1, v2, v3, v4, h3, q, e, or_true, true_or, or_false, false_or, z_b_T, z_b_F, Bool.false_eq_true, Classical.not_not, decide_eq_true_eq, z_sq, Option.bind_some, z_lits, z_n_add, z_n_mul, z_lt, z_le, z_eq, z_ne1, z_1ne, z_lt1, z_1lt, z_ltT, z_ltF, z_leT, z_leF, z_eqF, z_b_0, z_b_1, ↓reduceIte, eq_self, not_true_eq_false, not_false_eq_true, and_true, true_and, and_false, false_and, Nat.add_zero, Nat.zero_add]
                · have e : r_ut I J false (i + 1) = r_ut I J false i := by rw [r_ut]; simp only [Bool.false_eq_true, if_false, if_neg q]
                  simp (disch := omega) only [f_Mo_readings_L51, f_Mo_isLess, z_Mr hS9 hP9, h589, v1, v2, v3, v4, h3, q, e, or_true, true_or, or_false, false_or, z_b_T, z_b_F, Bool.false_eq_true, Classical.not_not, decide_eq_true_eq, z_sq, Option.bind_some, z_lits, z_n_add, z_n_mul, z_lt, z_le, z_eq, z_ne1, z_1ne, z_lt1, z_1lt, z_ltT, z_ltF, z_leT, z_leF, z_eqF, z_b_0, z_b_1, ↓reduceIte, eq_self, not_true_eq_false, not_false_eq_true, and_true, true_and, and_false, false_and, Nat.add_zero, Nat.zero_add])
            (by
              intro m
              simp (disch := omega) only [f_Mo_readings_L51, z_Mr hS9 hP9, h589, or_true, true_or, or_false, false_or, z_b_T, z_b_F, Bool.false_eq_true, Classical.not_not, decide_eq_true_eq, z_sq, Option.bind_some, z_lits, z_n_add, z_n_mul, z_lt, z_le, z_eq, z_ne1, z_1ne, z_lt1, z_1lt, z_ltT, z_ltF, z_leT, z_leF, z_eqF, z_b_0, z_b_1, ↓reduceIte, eq_self, not_true_eq_false, not_false_eq_true, and_true, true_and, and_false, false_and, Nat.add_zero, Nat.zero_add])
          exact hm
        have hm' := mgen S' I2 J' P' (n.1 + 2, n.2 + 16) hS hP h58 w
        generalize hu : r_ut I J gr (r_n I J - 1) = u at *
        have hun : u < r_n I J := by omega
        have c3 : (z_n x - z_n 1) - (z_n x - z_n 1) / z_n 3 * z_n 3 = z_n ((x - 1) % 3) := by
          rw [z_n_sub (by omega), z_div (by omega) (by omega), z_n_mul, z_n_sub (by omega)]
          congr 1; omega
        have c3' : z_n (x - 1) - z_n ((x - 1) / 3 * 3) = z_n ((x - 1) % 3) := by
          rw [z_n_sub (by omega)]; congr 1; omega
        have c4 : x - x / 3 * 3 = x % 3 := by omega
        have fu : f_Rs_findUtmost 8 (z_n (r_n I J)) (if 3 < x then z_n 1 else z_n 0) (z_h S' I' J' P' (n.1 + 2, n.2 + 16)) = some (z_n u, z_h S' I' J' P' (n.1 + 2, n.2 + 16)) := by
          unfold f_Rs_findUtmost
          show q_sq (f_Rs_findUtmost_L5 8 (z_n (r_n I J)) (if 3 < x then z_n 1 else z_n 0) q_FU (z_n 0) (z_n 1) _) _ = _
          rw [hc', z_sq]
        have e5 : x - 1 - (x - 1) / 3 * 3 = (x - 1) % 3 := by omega
        by_cases hp : (x - 1) % 3 = 2
        · have hx3 : x % 3 = 0 := by omega
          refine z_pr.mk' (r := z_n u) (n' := (n.1 + 2, n.2 + 16)) g bd m ?_ ?_
          · by_cases h3 : 3 < x
            · rw [if_pos h3] at fu
              simp (disch := omega) only [f_Rs_readings, C_gat8 hS0, C_gat8 hS, h1, C_isFrom, hx0, h0, h3, fu, z_n_sub, z_div, e5, hp, or_true, true_or, or_false, false_or, z_b_T, z_b_F, Bool.false_eq_true, Classical.not_not, decide_eq_true_eq, z_sq, Option.bind_some, z_lits, z_n_add, z_n_mul, z_lt, z_le, z_eq, z_ne1, z_1ne, z_lt1, z_1lt, z_ltT, z_ltF, z_leT, z_leF, z_eqF, z_b_0, z_b_1, ↓reduceIte, eq_self, not_true_eq_false, not_false_eq_true, and_true, true_and, and_false, false_and, Nat.add_zero, Nat.zero_add]
            · rw [if_neg h3] at fu
              simp (disch := omega) only [f_Rs_readings, C_gat8 hS0, C_gat8 hS, h1, C_isFrom, hx0, h0, h3, fu, z_n_sub, z_div, e5, hp, or_true, true_or, or_false, false_or, z_b_T, z_b_F, Bool.false_eq_true, Classical.not_not, decide_eq_true_eq, z_sq, Option.bind_some, z_lits, z_n_add, z_n_mul, z_lt, z_le, z_eq, z_ne1, z_1ne, z_lt1, z_1lt, z_ltT, z_ltF, z_leT, z_leF, z_eqF, z_b_0, z_b_1, ↓reduceIte, eq_self, not_true_eq_false, not_false_eq_true, and_true, true_and, and_false, false_and, Nat.add_zero, Nat.zero_add]
          · simp (disch := omega) only [f_Mo_readings, M_thr hS, M_win, z_ob (s_83 hS), h2, z_Mr hS hP, h58, hx0, h0, hm', z_n_sub, z_div, c4, hx3, or_true, true_or, or_false, false_or, z_b_T, z_b_F, Bool.false_eq_true, Classical.not_not, decide_eq_true_eq, z_sq, Option.bind_some, z_lits, z_n_add, z_n_mul, z_lt, z_le, z_eq, z_ne1, z_1ne, z_lt1, z_1lt, z_ltT, z_ltF, z_leT, z_leF, z_eqF, z_b_0, z_b_1, ↓reduceIte, eq_self, not_true_eq_false, not_false_eq_true, and_true, true_and, and_false, false_and, Nat.add_zero, Nat.zero_add]
        · have hx3 : ¬ x % 3 = 0 := by omega
          have hd : z_n ((x - 1) % 3) = z_n 0 ∨ z_n ((x - 1) % 3) = z_n 1 := by
            have : (x - 1) % 3 = 0 ∨ (x - 1) % 3 = 1 := by omega
            rcases this with e | e <;> rw [e] <;> simp
          obtain ⟨v1, v2⟩ := v u hun
          have p := f4 u hun
          have a1 := f2 u
          have a2 := f3 u
          obtain ⟨r, S2, I3, J2, P2, n2, k1, k2, k3, k4⟩ := C_ratio (S := S') (I := I') (J := J') (P := P') (n := (n.1 + 2, n.2 + 16)) (A := (r_a I J u : Nat)) (b := r_b I J u) (what := z_n ((x - 1) % 3)) (by omega) (by omega) (by simp; omega)
          have G := g.trans (n' := n.1 + 2) (by omega) (k3.x0 (K := K))
          have hS2 := B.qS.mono G hn
          have hP2 := B.qP.mono G hn
          have cg2 := G.cg (K := K) (z_keepx K) B.2.2.1.2 hn
          have m2 : z_mf I3 J2 (z_up I3 83 0 (z_n 0)) J2 := z_mf.up rfl
          have la := M_lays B hS2 hP2 (cg2.trans m2.cg) (n' := n2)
          obtain ⟨w3, w4⟩ := r_mm_v (z_up I3 83 0 (z_n 0)) I J hun
          have h58' : r_mm (z_up I3 83 0 (z_n 0)) I J 225 83 58 = z_n (r_n I J) := z_up_s _ _ _ _
          have hm2 := mgen S2 (r_mm (z_up I3 83 0 (z_n 0)) I J 225) J2 P2 n2 hS2 hP2 h58' (fun j hj => r_mm_v _ I J hj)
          have e := M_low (σ := z_h S2 (r_mm (z_up I3 83 0 (z_n 0)) I J 225) J2 P2 n2) (A := (r_a I J u : Nat)) (b := r_b I J u) (what := z_n ((x - 1) % 3)) (by omega) (by omega) (by omega) hd
          refine z_pr.mk' (r := z_fr (r_a I J u : Nat) (r_b I J u) (z_n ((x - 1) % 3))) (n' := n2) G ⟨by simp at k4; omega, by simp at k4; omega, by simp at k4; omega⟩ (m2.trans (r_mm_mf _ _ I J 225)) ?_ ?_
          · by_cases h3 : 3 < x
            · rw [if_pos h3] at fu
              simp (disch := omega) only [f_Rs_readings, C_gat8 hS0, C_gat8 hS, h1, C_isFrom, hx0, h0, h3, fu, z_n_sub, z_div, e5, hp, e11, e12, z_Otr hS hP, v1, v2, z_cast, k1, k2, or_true, true_or, or_false, false_or, z_b_T, z_b_F, Bool.false_eq_true, Classical.not_not, decide_eq_true_eq, z_sq, Option.bind_some, z_lits, z_n_add, z_n_mul, z_lt, z_le, z_eq, z_ne1, z_1ne, z_lt1, z_1lt, z_ltT, z_ltF, z_leT, z_leF, z_eqF, z_b_0, z_b_1, ↓reduceIte, eq_self, not_true_eq_false, not_false_eq_true, and_true, true_and, and_false, false_and, Nat.add_zero, Nat.zero_add]
            · rw [if_neg h3] at fu
              simp (disch := omega) only [f_Rs_readings, C_gat8 hS0, C_gat8 hS, h1, C_isFrom, hx0, h0, h3, fu, z_n_sub, z_div, e5, hp, e11, e12, z_Otr hS hP, v1, v2, z_cast, k1, k2, or_true, true_or, or_false, false_or, z_b_T, z_b_F, Bool.false_eq_true, Classical.not_not, decide_eq_true_eq, z_sq, Option.bind_some, z_lits, z_n_add, z_n_mul, z_lt, z_le, z_eq, z_ne1, z_1ne, z_lt1, z_1lt, z_ltT, z_ltF, z_leT, z_leF, z_eqF, z_b_0, z_b_1, ↓reduceIte, eq_self, not_true_eq_false, not_false_eq_true, and_true, true_and, and_false, false_and, Nat.add_zero, Nat.zero_add]
          · simp (disch := omega) only [f_Mo_readings, M_thr hS2, M_win, z_ob (s_83 hS2), la, z_Mr hS2 hP2, h58', hx0, h0, hm2, z_n_sub, z_div, c4, hx3, e5, w3, w4, z_cast, e, or_true, true_or, or_false, false_or, z_b_T, z_b_F, Bool.false_eq_true, Classical.not_not, decide_eq_true_eq, z_sq, Option.bind_some, z_lits, z_n_add, z_n_mul, z_lt, z_le, z_eq, z_ne1, z_1ne, z_lt1, z_1lt, z_ltT, z_ltF, z_leT, z_leF, z_eqF, z_b_0, z_b_1, ↓reduceIte, eq_self, not_true_eq_false, not_false_eq_true, and_true, true_and, and_false, false_and, Nat.add_zero, Nat.zero_add]
  · refine z_pr.mk' (r := -z_n 1) (n' := (n.1 + 2, n.2 + 16)) g bd m0 ?_ ?_
    · rcases z_oL ho with h | ⟨h, h'⟩
      · have n0 : (d = z_n 0) = False := eq_false (fun e => by
          have h := of_eq_true h
          rw [e, z_lt (by omega) (by omega)] at h; omega)
        have n1 : (d < z_n 1) = True := eq_true (by
          have h := of_eq_true h
          rw [Int32.lt_iff_toInt_lt, z_n_int (by omega)] at h ⊢; omega)
        simp (disch := omega) only [f_Rs_readings, C_gat8 hS0, h1, C_isFrom, n0, n1, or_true, true_or, or_false, false_or, z_b_T, z_b_F, Bool.false_eq_true, Classical.not_not, decide_eq_true_eq, z_sq, Option.bind_some, z_lits, z_n_add, z_n_mul, z_lt, z_le, z_eq, z_ne1, z_1ne, z_lt1, z_1lt, z_ltT, z_ltF, z_leT, z_leF, z_eqF, z_b_0, z_b_1, ↓reduceIte, eq_self, not_true_eq_false, not_false_eq_true, and_true, true_and, and_false, false_and, Nat.add_zero, Nat.zero_add]
      · have n0 : (d = z_n 0) = False := eq_false (fun e => by
          have h := of_eq_true h'
          rw [e, z_lt (by omega) (by omega)] at h; omega)
        simp (disch := omega) only [f_Rs_readings, C_gat8 hS0, h1, C_isFrom, n0, h', or_true, true_or, or_false, false_or, z_b_T, z_b_F, Bool.false_eq_true, Classical.not_not, decide_eq_true_eq, z_sq, Option.bind_some, z_lits, z_n_add, z_n_mul, z_lt, z_le, z_eq, z_ne1, z_1ne, z_lt1, z_1lt, z_ltT, z_ltF, z_leT, z_leF, z_eqF, z_b_0, z_b_1, ↓reduceIte, eq_self, not_true_eq_false, not_false_eq_true, and_true, true_and, and_false, false_and, Nat.add_zero, Nat.zero_add]
    · simp (disch := omega) only [f_Mo_readings, M_thr hS, M_wout ho, or_true, true_or, or_false, false_or, z_b_T, z_b_F, Bool.false_eq_true, Classical.not_not, decide_eq_true_eq, z_sq, Option.bind_some, z_lits, z_n_add, z_n_mul, z_lt, z_le, z_eq, z_ne1, z_1ne, z_lt1, z_1lt, z_ltT, z_ltF, z_leT, z_leF, z_eqF, z_b_0, z_b_1, ↓reduceIte, eq_self, not_true_eq_false, not_false_eq_true, and_true, true_and, and_false, false_and, Nat.add_zero, Nat.zero_add]
end
