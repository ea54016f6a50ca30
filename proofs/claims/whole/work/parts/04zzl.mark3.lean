/-! MARKS: the reference takes back. -/
section
variable {S : z_SH} {I : z_MI} {J : z_MJ} {P : z_MP} {K : Nat → Bool} {n : Nat × Nat}
def k_t6 (I : z_MI) (m s k : Nat) : Int32 := if k ≤ 1 then (if I 127 (144 * m + 6 * s + k) = z_n 1 then z_n 1 else z_n 0) else I 127 (144 * m + 6 * s + k)
set_option maxRecDepth 100000 in
set_option maxHeartbeats 4000000 in
theorem M_take2 (hS : z_St S) (hP : z_Pt P) {m : Nat} (hm : m < 4) : ∃ Y, f_Mo_takesBack_L2 83 (z_n m) q_FU (z_n 0) (z_h S I J P n) = some ((), z_h S Y J P n) ∧ (∀ a, a ≠ 84 → Y a = I a) ∧ ∀ j, j < 6 → Y 84 j = I 126 (6 * m + j) := by
  exact z_runI (fun k i (Y : z_MI) => f_Mo_takesBack_L2 83 (z_n m) k (z_n i) (z_h S Y J P n)) 6
    (fun i Y => (∀ a, a ≠ 84 → Y a = I a) ∧ ∀ j, j < i → Y 84 j = I 126 (6 * m + j))
    (fun r => ∃ Y, r = some ((), z_h S Y J P n) ∧ (∀ a, a ≠ 84 → Y a = I a) ∧ ∀ j, j < 6 → Y 84 j = I 126 (6 * m + j)) (by omega)
    (by
      intro k i Y hi ⟨q1, q2⟩
      have e : Y 126 (6 * m + i) = I 126 (6 * m + i) := by rw [q1 126 (by decide)]
      refine ⟨z_up Y 84 i (I 126 (6 * m + i)), ⟨fun a ha => by rw [z_ups ha]; exact q1 a ha, fun j hj => ?_⟩, ?_⟩
      · rw [z_up_e]
        by_cases q : j = i
        · rw [if_pos q, q]
        · rw [if_neg q]; exact q2 j (by omega)
      · simp (disch := omega) only [f_Mo_takesBack_L2, hi, z_Mr hS hP, z_Mw hS, e, or_true, true_or, or_false, false_or, z_b_T, z_b_F, Bool.false_eq_true, Classical.not_not, decide_eq_true_eq, z_sq, Option.bind_some, z_lits, z_n_add, z_n_mul, z_lt, z_le, z_eq, z_ne1, z_1ne, z_lt1, z_1lt, z_ltT, z_ltF, z_leT, z_leF, z_eqF, z_b_0, z_b_1, ↓reduceIte, eq_self, not_true_eq_false, not_false_eq_true, and_true, true_and, and_false, false_and, Nat.add_zero, Nat.zero_add])
    (by
      intro k Y ⟨q1, q2⟩
      refine ⟨Y, ?_, q1, q2⟩
      simp (disch := omega) only [f_Mo_takesBack_L2, Nat.lt_irrefl, or_true, true_or, or_false, false_or, z_b_T, z_b_F, Bool.false_eq_true, Classical.not_not, decide_eq_true_eq, z_sq, Option.bind_some, z_lits, z_n_add, z_n_mul, z_lt, z_le, z_eq, z_ne1, z_1ne, z_lt1, z_1lt, z_ltT, z_ltF, z_leT, z_leF, z_eqF, z_b_0, z_b_1, ↓reduceIte, eq_self, not_true_eq_false, not_false_eq_true, and_true, true_and, and_false, false_and, Nat.add_zero, Nat.zero_add])
    (x := I) ⟨fun _ _ => rfl, fun j hj => absurd hj (Nat.not_lt_zero _)⟩
theorem z_row6 {Y : z_MI} {b i : Nat} {v0 v1 v2 v3 v4 v5 : Int32} (k : Nat) (hk : k < 6) (j : Nat) : z_up (z_up (z_up (z_up (z_up (z_up Y b i v0) (b + 1) i v1) (b + 2) i v2) (b + 3) i v3) (b + 4) i v4) (b + 5) i v5 (b + k) j = if j = i then (if k = 0 then v0 else if k = 1 then v1 else if k = 2 then v2 else if k = 3 then v3 else if k = 4 then v4 else v5) else Y (b + k) j := by
  unfold z_up
  rcases z_j6 hk with rfl | rfl | rfl | rfl | rfl | rfl <;> by_cases h : j = i <;> simp [h]
theorem z_row5 {Y : z_MI} {b i : Nat} {v0 v1 v2 v3 v4 : Int32} (k : Nat) (hk : k < 5) (j : Nat) : z_up (z_up (z_up (z_up (z_up Y b i v0) (b + 1) i v1) (b + 2) i v2) (b + 3) i v3) (b + 4) i v4 (b + k) j = if j = i then (if k = 0 then v0 else if k = 1 then v1 else if k = 2 then v2 else if k = 3 then v3 else v4) else Y (b + k) j := by
  unfold z_up
  have : k = 0 ∨ k = 1 ∨ k = 2 ∨ k = 3 ∨ k = 4 := by omega
  rcases this with rfl | rfl | rfl | rfl | rfl <;> by_cases h : j = i <;> simp [h]
theorem z_row3 {Y : z_MJ} {b i : Nat} {v0 v1 v2 : Int64} (k : Nat) (hk : k < 3) (j : Nat) : z_uj (z_uj (z_uj Y b i v0) (b + 1) i v1) (b + 2) i v2 (b + k) j = if j = i then (if k = 0 then v0 else if k = 1 then v1 else v2) else Y (b + k) j := by
  unfold z_uj
  have : k = 0 ∨ k = 1 ∨ k = 2 := by omega
  rcases this with rfl | rfl | rfl <;> by_cases h : j = i <;> simp [h]
set_option maxRecDepth 100000 in
set_option maxHeartbeats 4000000 in
theorem M_take33 (hS : z_St S) (hP : z_Pt P) {m : Nat} (hm : m < 4) : ∃ Y, f_Mo_takesBack_L33 83 (z_n m) q_FU (z_n 0) (z_h S I J P n) = some ((), z_h S Y J P n) ∧ (∀ a, (a < 85 ∨ 90 < a) → Y a = I a) ∧ ∀ k, k < 6 → ∀ j, Y (85 + k) j = if j < 24 then k_t6 I m j k else I (85 + k) j := by
  exact z_runI (fun k i (Y : z_MI) => f_Mo_takesBack_L33 83 (z_n m) k (z_n i) (z_h S Y J P n)) 24
    (fun i Y => (∀ a, (a < 85 ∨ 90 < a) → Y a = I a) ∧ ∀ k, k < 6 → ∀ j, Y (85 + k) j = if j < i then k_t6 I m j k else I (85 + k) j)
    (fun r => ∃ Y, r = some ((), z_h S Y J P n) ∧ (∀ a, (a < 85 ∨ 90 < a) → Y a = I a) ∧ ∀ k, k < 6 → ∀ j, Y (85 + k) j = if j < 24 then k_t6 I m j k else I (85 + k) j) (by omega)
    (by
      intro k i Y hi ⟨q1, q2⟩
      have e : ∀ j, Y 127 j = I 127 j := fun j => by rw [q1 127 (by omega)]
      have u : ∀ X a v j, a ≠ 127 → z_up X a i v 127 j = X 127 j := fun X a v j h => by rw [z_ups (Ne.symm h)]
      have u85 := fun X v j => u X 85 v j (by decide)
      have u86 := fun X v j => u X 86 v j (by decide)
      have u87 := fun X v j => u X 87 v j (by decide)
      have u88 := fun X v j => u X 88 v j (by decide)
      have u89 := fun X v j => u X 89 v j (by decide)
      have k0 : k_t6 I m i 0 = if I 127 (144 * m + 6 * i) = z_n 1 then z_n 1 else z_n 0 := rfl
      have k1 : k_t6 I m i 1 = if I 127 (144 * m + 6 * i + 1) = z_n 1 then z_n 1 else z_n 0 := rfl
      have k2 : k_t6 I m i 2 = I 127 (144 * m + 6 * i + 2) := rfl
      have k3 : k_t6 I m i 3 = I 127 (144 * m + 6 * i + 3) := rfl
      have k4 : k_t6 I m i 4 = I 127 (144 * m + 6 * i + 4) := rfl
      have k5 : k_t6 I m i 5 = I 127 (144 * m + 6 * i + 5) := rfl
      refine ⟨z_up (z_up (z_up (z_up (z_up (z_up Y 85 i (k_t6 I m i 0)) 86 i (k_t6 I m i 1)) 87 i (k_t6 I m i 2)) 88 i (k_t6 I m i 3)) 89 i (k_t6 I m i 4)) 90 i (k_t6 I m i 5), ⟨fun a ha => by rw [z_ups (by omega), z_ups (by omega), z_ups (by omega), z_ups (by omega), z_ups (by omega), z_ups (by omega)]; exact q1 a ha, fun k' hk j => ?_⟩, ?_⟩
      · have r := z_row6 (Y := Y) (b := 85) (i := i) (v0 := k_t6 I m i 0) (v1 := k_t6 I m i 1) (v2 := k_t6 I m i 2) (v3 := k_t6 I m i 3) (v4 := k_t6 I m i 4) (v5 := k_t6 I m i 5) k' hk j
        refine r.trans ?_
        by_cases q : j = i
        · rw [if_pos q, q, if_pos (show i < i + 1 by omega)]
          rcases z_j6 hk with rfl | rfl | rfl | rfl | rfl | rfl <;> rfl
        · rw [if_neg q, q2 k' hk j]
          by_cases q3 : j < i
          · rw [if_pos q3, if_pos (by omega)]
          · rw [if_neg q3, if_neg (by omega)]
      · rw [k0, k1, k2, k3, k4, k5]
        rcases z_tf (I 127 (144 * m + 6 * i) = z_n 1) with c0 | c0 <;> rcases z_tf (I 127 (144 * m + 6 * i + 1) = z_n 1) with c1 | c1 <;> simp (disch := omega) only [f_Mo_takesBack_L33, hi, z_Mr hS hP, z_Mw hS, e, u85, u86, u87, u88, u89, c0, c1, or_true, true_or, or_false, false_or, z_b_T, z_b_F, Bool.false_eq_true, Classical.not_not, decide_eq_true_eq, z_sq, Option.bind_some, z_lits, z_n_add, z_n_mul, z_lt, z_le, z_eq, z_ne1, z_1ne, z_lt1, z_1lt, z_ltT, z_ltF, z_leT, z_leF, z_eqF, z_b_0, z_b_1, ↓reduceIte, eq_self, not_true_eq_false, not_false_eq_true, and_true, true_and, and_false, false_and, Nat.add_zero, Nat.zero_add])
    (by
      intro k Y ⟨q1, q2⟩
      refine ⟨Y, ?_, q1, q2⟩
      simp (disch := omega) only [f_Mo_takesBack_L33, Nat.lt_irrefl, or_true, true_or, or_false, false_or, z_b_T, z_b_F, Bool.false_eq_true, Classical.not_not, decide_eq_true_eq, z_sq, Option.bind_some, z_lits, z_n_add, z_n_mul, z_lt, z_le, z_eq, z_ne1, z_1ne, z_lt1, z_1lt, z_ltT, z_ltF, z_leT, z_leF, z_eqF, z_b_0, z_b_1, ↓reduceIte, eq_self, not_true_eq_false, not_false_eq_true, and_true, true_and, and_false, false_and, Nat.add_zero, Nat.zero_add])
    (x := I) ⟨fun _ _ => rfl, fun k _ j => by rw [if_neg (Nat.not_lt_zero _)]⟩
set_option maxRecDepth 100000 in
set_option maxHeartbeats 4000000 in
theorem M_take158 (hS : z_St S) (hP : z_Pt P) {m : Nat} (hm : m < 4) : ∃ Y Z, f_Mo_takesBack_L158 83 (z_n m) q_FU (z_n 0) (z_h S I J P n) = some ((), z_h S Y Z P n) ∧ (∀ a, (a < 91 ∨ 95 < a) → Y a = I a) ∧ (∀ a, (a < 96 ∨ 98 < a) → Z a = J a) ∧ (∀ k, k < 5 → ∀ j, j < 288 → Y (91 + k) j = I 128 (1440 * m + 5 * j + k)) ∧ ∀ k, k < 3 → ∀ j, j < 288 → Z (96 + k) j = J 129 (864 * m + 3 * j + k) := by
  exact z_runI (fun k i (Y : z_MI × z_MJ) => f_Mo_takesBack_L158 83 (z_n m) k (z_n i) (z_h S Y.1 Y.2 P n)) 288
    (fun i Y => (∀ a, (a < 91 ∨ 95 < a) → Y.1 a = I a) ∧ (∀ a, (a < 96 ∨ 98 < a) → Y.2 a = J a) ∧ (∀ k, k < 5 → ∀ j, j < i → Y.1 (91 + k) j = I 128 (1440 * m + 5 * j + k)) ∧ ∀ k, k < 3 → ∀ j, j < i → Y.2 (96 + k) j = J 129 (864 * m + 3 * j + k))
    (fun r => ∃ Y Z, r = some ((), z_h S Y Z P n) ∧ (∀ a, (a < 91 ∨ 95 < a) → Y a = I a) ∧ (∀ a, (a < 96 ∨ 98 < a) → Z a = J a) ∧ (∀ k, k < 5 → ∀ j, j < 288 → Y (91 + k) j = I 128 (1440 * m + 5 * j + k)) ∧ ∀ k, k < 3 → ∀ j, j < 288 → Z (96 + k) j = J 129 (864 * m + 3 * j + k)) (by omega)
    (by
      intro k i ⟨Y, Z⟩ hi ⟨q1, p1, q2, p2⟩
      simp only at q1 p1 q2 p2 ⊢
      have e : ∀ j, Y 128 j = I 128 j := fun j => by rw [q1 128 (by omega)]
      have f : ∀ j, Z 129 j = J 129 j := fun j => by rw [p1 129 (by omega)]
      have u : ∀ X a v j, a ≠ 128 → z_up X a i v 128 j = X 128 j := fun X a v j h => by rw [z_ups (Ne.symm h)]
      have w : ∀ X a v j, a ≠ 129 → z_uj X a i v 129 j = X 129 j := fun X a v j h => by rw [z_uj_r (Ne.symm h)]
      have u91 := fun X v j => u X 91 v j (by decide)
      have u92 := fun X v j => u X 92 v j (by decide)
      have u93 := fun X v j => u X 93 v j (by decide)
      have u94 := fun X v j => u X 94 v j (by decide)
      have w96 := fun X v j => w X 96 v j (by decide)
      have w97 := fun X v j => w X 97 v j (by decide)
      refine ⟨(z_up (z_up (z_up (z_up (z_up Y 91 i (I 128 (1440 * m + 5 * i))) 92 i (I 128 (1440 * m + 5 * i + 1))) 93 i (I 128 (1440 * m + 5 * i + 2))) 94 i (I 128 (1440 * m + 5 * i + 3))) 95 i (I 128 (1440 * m + 5 * i + 4)), z_uj (z_uj (z_uj Z 96 i (J 129 (864 * m + 3 * i))) 97 i (J 129 (864 * m + 3 * i + 1))) 98 i (J 129 (864 * m + 3 * i + 2))), ⟨fun a ha => ?_, fun a ha => ?_, fun k' hk j hj => ?_, fun k' hk j hj => ?_⟩, ?_⟩
      · show z_up _ _ _ _ a = _
        rw [z_ups (by omega), z_ups (by omega), z_ups (by omega), z_ups (by omega), z_ups (by omega)]; exact q1 a ha
      · show z_uj _ _ _ _ a = _
        rw [z_uj_r (by omega), z_uj_r (by omega), z_uj_r (by omega)]; exact p1 a ha
      · refine (z_row5 (Y := Y) (b := 91) (i := i) k' hk j).trans ?_
        by_cases q : j = i
        · rw [if_pos q, q]
          have : k' = 0 ∨ k' = 1 ∨ k' = 2 ∨ k' = 3 ∨ k' = 4 := by omega
          rcases this with rfl | rfl | rfl | rfl | rfl <;> rfl
        · rw [if_neg q]; exact q2 k' hk j (by omega)
      · refine (z_row3 (Y := Z) (b := 96) (i := i) k' hk j).trans ?_
        by_cases q : j = i
        · rw [if_pos q, q]
          have : k' = 0 ∨ k' = 1 ∨ k' = 2 := by omega
          rcases this with rfl | rfl | rfl <;> rfl
        · rw [if_neg q]; exact p2 k' hk j (by omega)
      · simp (disch := omega) only [f_Mo_takesBack_L158, hi, z_Mr hS hP, z_Mw hS, e, f, u91, u92, u93, u94, w96, w97, or_true, true_or, or_false, false_or, z_b_T, z_b_F, Bool.false_eq_true, Classical.not_not, decide_eq_true_eq, z_sq, Option.bind_some, z_lits, z_n_add, z_n_mul, z_lt, z_le, z_eq, z_ne1, z_1ne, z_lt1, z_1lt, z_ltT, z_ltF, z_leT, z_leF, z_eqF, z_b_0, z_b_1, ↓reduceIte, eq_self, not_true_eq_false, not_false_eq_true, and_true, true_and, and_false, false_and, Nat.add_zero, Nat.zero_add])
    (by
      intro k ⟨Y, Z⟩ ⟨q1, p1, q2, p2⟩
      simp only at q1 p1 q2 p2 ⊢
      refine ⟨Y, Z, ?_, q1, p1, q2, p2⟩
      simp (disch := omega) only [f_Mo_takesBack_L158, Nat.lt_irrefl, or_true, true_or, or_false, false_or, z_b_T, z_b_F, Bool.false_eq_true, Classical.not_not, decide_eq_true_eq, z_sq, Option.bind_some, z_lits, z_n_add, z_n_mul, z_lt, z_le, z_eq, z_ne1, z_1ne, z_lt1, z_1lt, z_ltT, z_ltF, z_leT, z_leF, z_eqF, z_b_0, z_b_1, ↓reduceIte, eq_self, not_true_eq_false, not_false_eq_true, and_true, true_and, and_false, false_and, Nat.add_zero, Nat.zero_add])
    (x := (I, J)) ⟨fun _ _ => rfl, fun _ _ => rfl, fun k _ j hj => absurd hj (Nat.not_lt_zero _), fun k _ j hj => absurd hj (Nat.not_lt_zero _)⟩
set_option maxRecDepth 100000 in
set_option maxHeartbeats 4000000 in
theorem M_takes (hS : z_St S) (hP : z_Pt P) {m : Nat} (hm : m < 4) : ∃ Y Z, f_Mo_takesBack 83 (z_n m) (z_h S I J P n) = some ((), z_h S Y Z P n) ∧ (∀ a, (a < 84 ∨ 95 < a) → Y a = I a) ∧ (∀ a, (a < 96 ∨ 98 < a) → Z a = J a) ∧ (∀ j, j < 6 → Y 84 j = I 126 (6 * m + j)) ∧ (∀ k, k < 6 → ∀ j, j < 24 → Y (85 + k) j = k_t6 I m j k) ∧ (∀ k, k < 5 → ∀ j, j < 288 → Y (91 + k) j = I 128 (1440 * m + 5 * j + k)) ∧ (∀ k, k < 3 → ∀ j, j < 288 → Z (96 + k) j = J 129 (864 * m + 3 * j + k)) ∧ ∀ j, ¬ j < 24 → Y 90 j = I 90 j := by
  obtain ⟨A, a1, a2, a3⟩ := M_take2 (I := I) (J := J) (n := n) hS hP hm
  obtain ⟨C, b1, b2, b3⟩ := M_take33 (I := A) (J := J) (n := n) hS hP hm
  obtain ⟨Y, Z, c1, c2, c3, c4, c5⟩ := M_take158 (I := C) (J := J) (n := n) hS hP hm
  have e127 : A 127 = I 127 := a2 127 (by decide)
  refine ⟨Y, Z, ?_, fun a ha => by rw [c2 a (by omega), b2 a (by omega), a2 a (by omega)], c3, fun j hj => by rw [c2 84 (by omega), b2 84 (by omega)]; exact a3 j hj, fun k hk j hj => ?_, fun k hk j hj => ?_, c5, fun j hj => ?_⟩
  · simp (disch := omega) only [f_Mo_takesBack, a1, b1, c1, or_true, true_or, or_false, false_or, z_b_T, z_b_F, Bool.false_eq_true, Classical.not_not, decide_eq_true_eq, z_sq, Option.bind_some, z_lits, z_n_add, z_n_mul, z_lt, z_le, z_eq, z_ne1, z_1ne, z_lt1, z_1lt, z_ltT, z_ltF, z_leT, z_leF, z_eqF, z_b_0, z_b_1, ↓reduceIte, eq_self, not_true_eq_false, not_false_eq_true, and_true, true_and, and_false, false_and, Nat.add_zero, Nat.zero_add]
  · rw [c2 _ (by omega), b3 k hk j, if_pos hj]
    unfold k_t6
    rw [e127]
  · rw [c4 k hk j hj, b2 128 (by omega), a2 128 (by decide)]
  · have := b3 5 (by omega) j
    rw [if_neg hj] at this
    rw [c2 90 (by omega), ← a2 90 (by decide)]; exact this
end
