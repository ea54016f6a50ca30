/-! MARKS: the reference. -/
theorem z_up5 (X : z_MI) (a b : Nat) (f : Nat → Int32) (j : Nat) : z_up (z_up (z_up (z_up (z_up X a b (f 0)) a (b + 1) (f 1)) a (b + 2) (f 2)) a (b + 3) (f 3)) a (b + 4) (f 4) a j = if b ≤ j ∧ j < b + 5 then f (j - b) else X a j := by
  rw [z_up_e, z_up_e, z_up_e, z_up_e, z_up_e]
  by_cases h : b ≤ j ∧ j < b + 5
  · rw [if_pos h]
    obtain ⟨k, rfl⟩ : ∃ k, j = b + k := ⟨j - b, by omega⟩
    rw [Nat.add_sub_cancel_left]
    have : k = 0 ∨ k = 1 ∨ k = 2 ∨ k = 3 ∨ k = 4 := by omega
    rcases this with rfl | rfl | rfl | rfl | rfl <;> simp
  · rw [if_neg h, if_neg (by omega), if_neg (by omega), if_neg (by omega), if_neg (by omega), if_neg (by omega)]
theorem z_up6 (X : z_MI) (a b : Nat) (f : Nat → Int32) (j : Nat) : z_up (z_up (z_up (z_up (z_up (z_up X a b (f 0)) a (b + 1) (f 1)) a (b + 2) (f 2)) a (b + 3) (f 3)) a (b + 4) (f 4)) a (b + 5) (f 5) a j = if b ≤ j ∧ j < b + 6 then f (j - b) else X a j := by
  rw [z_up_e, z_up5]
  by_cases h : j = b + 5
  · rw [if_pos h, if_pos (by omega), h, Nat.add_sub_cancel_left]
  · rw [if_neg h]
    by_cases h2 : b ≤ j ∧ j < b + 5
    · rw [if_pos h2, if_pos (by omega)]
    · rw [if_neg h2, if_neg (by omega)]
theorem z_uj_e (I : z_MJ) (a i : Nat) (v : Int64) (j : Nat) : z_uj I a i v a j = if j = i then v else I a j := by
  unfold z_uj
  simp only [true_and]
theorem z_uj3 (X : z_MJ) (a b : Nat) (f : Nat → Int64) (j : Nat) : z_uj (z_uj (z_uj X a b (f 0)) a (b + 1) (f 1)) a (b + 2) (f 2) a j = if b ≤ j ∧ j < b + 3 then f (j - b) else X a j := by
  rw [z_uj_e, z_uj_e, z_uj_e]
  by_cases h : b ≤ j ∧ j < b + 3
  · rw [if_pos h]
    obtain ⟨k, rfl⟩ : ∃ k, j = b + k := ⟨j - b, by omega⟩
    rw [Nat.add_sub_cancel_left]
    have : k = 0 ∨ k = 1 ∨ k = 2 := by omega
    rcases this with rfl | rfl | rfl <;> simp
  · rw [if_neg h, if_neg (by omega), if_neg (by omega), if_neg (by omega)]
section
variable {S : z_SH} {I : z_MI} {J : z_MJ} {P : z_MP} {K : Nat → Bool} {n : Nat × Nat}
def k_f6 (I : z_MI) (s k : Nat) : Int32 := if k = 0 then (if I 85 s = z_n 0 then z_n 0 else z_n 1) else if k = 1 then (if I 86 s = z_n 0 then z_n 0 else z_n 1) else I (85 + k) s
set_option maxRecDepth 100000 in
set_option maxHeartbeats 4000000 in
theorem M_keep2 (hS : z_St S) (hP : z_Pt P) {m : Nat} (hm : m < 4) : ∃ Y, f_Mo_keeps_L2 83 (z_n m) q_FU (z_n 0) (z_h S I J P n) = some ((), z_h S Y J P n) ∧ (∀ a, a ≠ 126 → Y a = I a) ∧ ∀ j, Y 126 j = if 6 * m ≤ j ∧ j < 6 * m + 6 then I 84 (j - 6 * m) else I 126 j := by
  exact z_runI (fun k i (Y : z_MI) => f_Mo_keeps_L2 83 (z_n m) k (z_n i) (z_h S Y J P n)) 6
    (fun i Y => (∀ a, a ≠ 126 → Y a = I a) ∧ ∀ j, Y 126 j = if 6 * m ≤ j ∧ j < 6 * m + i then I 84 (j - 6 * m) else I 126 j)
    (fun r => ∃ Y, r = some ((), z_h S Y J P n) ∧ (∀ a, a ≠ 126 → Y a = I a) ∧ ∀ j, Y 126 j = if 6 * m ≤ j ∧ j < 6 * m + 6 then I 84 (j - 6 * m) else I 126 j) (by omega)
    (by
      intro k i Y hi ⟨q1, q2⟩
      have e : Y 84 i = I 84 i := by rw [q1 84 (by decide)]
      refine ⟨z_up Y 126 (6 * m + i) (I 84 i), ⟨fun a ha => by rw [z_ups ha]; exact q1 a ha, fun j => ?_⟩, ?_⟩
      · rw [z_up_e]
        by_cases q : j = 6 * m + i
        · rw [if_pos q, if_pos (by omega), q, Nat.add_sub_cancel_left]
        · rw [if_neg q, q2]
          by_cases q3 : 6 * m ≤ j ∧ j < 6 * m + i
          · rw [if_pos q3, if_pos (by omega)]
          · rw [if_neg q3, if_neg (by omega)]
      · simp (disch := omega) only [f_Mo_keeps_L2, hi, z_Mr hS hP, z_Mw hS, e, or_true, true_or, or_false, false_or, z_b_T, z_b_F, Bool.false_eq_true, Classical.not_not, decide_eq_true_eq, z_sq, Option.bind_some, z_lits, z_n_add, z_n_mul, z_lt, z_le, z_eq, z_ne1, z_1ne, z_lt1, z_1lt, z_ltT, z_ltF, z_leT, z_leF, z_eqF, z_b_0, z_b_1, ↓reduceIte, eq_self, not_true_eq_false, not_false_eq_true, and_true, true_and, and_false, false_and, Nat.add_zero, Nat.zero_add])
    (by
      intro k Y ⟨q1, q2⟩
      refine ⟨Y, ?_, q1, q2⟩
      simp (disch := omega) only [f_Mo_keeps_L2, Nat.lt_irrefl, or_true, true_or, or_false, false_or, z_b_T, z_b_F, Bool.false_eq_true, Classical.not_not, decide_eq_true_eq, z_sq, Option.bind_some, z_lits, z_n_add, z_n_mul, z_lt, z_le, z_eq, z_ne1, z_1ne, z_lt1, z_1lt, z_ltT, z_ltF, z_leT, z_leF, z_eqF, z_b_0, z_b_1, ↓reduceIte, eq_self, not_true_eq_false, not_false_eq_true, and_true, true_and, and_false, false_and, Nat.add_zero, Nat.zero_add])
    (x := I) ⟨fun _ _ => rfl, fun j => by rw [if_neg (by omega)]⟩
set_option maxRecDepth 100000 in
set_option maxHeartbeats 4000000 in
theorem M_keep33 (hS : z_St S) (hP : z_Pt P) {m : Nat} (hm : m < 4) : ∃ Y, f_Mo_keeps_L33 83 (z_n m) q_FU (z_n 0) (z_h S I J P n) = some ((), z_h S Y J P n) ∧ (∀ a, a ≠ 127 → Y a = I a) ∧ ∀ j, Y 127 j = if 144 * m ≤ j ∧ j < 144 * m + 144 then k_f6 I ((j - 144 * m) / 6) ((j - 144 * m) % 6) else I 127 j := by
  exact z_runI (fun k i (Y : z_MI) => f_Mo_keeps_L33 83 (z_n m) k (z_n i) (z_h S Y J P n)) 24
    (fun i Y => (∀ a, a ≠ 127 → Y a = I a) ∧ ∀ j, Y 127 j = if 144 * m ≤ j ∧ j < 144 * m + 6 * i then k_f6 I ((j - 144 * m) / 6) ((j - 144 * m) % 6) else I 127 j)
    (fun r => ∃ Y, r = some ((), z_h S Y J P n) ∧ (∀ a, a ≠ 127 → Y a = I a) ∧ ∀ j, Y 127 j = if 144 * m ≤ j ∧ j < 144 * m + 144 then k_f6 I ((j - 144 * m) / 6) ((j - 144 * m) % 6) else I 127 j) (by omega)
    (by
      intro k i Y hi ⟨q1, q2⟩
      have e : ∀ a, a ≠ 127 → Y a i = I a i := fun a ha => by rw [q1 a ha]
      have u : ∀ X a b v, a ≠ 127 → z_up X 127 b v a i = X a i := fun X a b v h => by rw [z_ups h]
      have e85 := e 85 (by decide)
      have e86 := e 86 (by decide)
      have e87 := e 87 (by decide)
      have e88 := e 88 (by decide)
      have e89 := e 89 (by decide)
      have e90 := e 90 (by decide)
      have u86 := fun X b v => u X 86 b v (by decide)
      have u87 := fun X b v => u X 87 b v (by decide)
      have u88 := fun X b v => u X 88 b v (by decide)
      have u89 := fun X b v => u X 89 b v (by decide)
      have u90 := fun X b v => u X 90 b v (by decide)
      refine ⟨z_up (z_up (z_up (z_up (z_up (z_up Y 127 (144 * m + 6 * i) (k_f6 I i 0)) 127 (144 * m + 6 * i + 1) (k_f6 I i 1)) 127 (144 * m + 6 * i + 2) (k_f6 I i 2)) 127 (144 * m + 6 * i + 3) (k_f6 I i 3)) 127 (144 * m + 6 * i + 4) (k_f6 I i 4)) 127 (144 * m + 6 * i + 5) (k_f6 I i 5), ⟨fun a ha => by rw [z_ups ha, z_ups ha, z_ups ha, z_ups ha, z_ups ha, z_ups ha]; exact q1 a ha, fun j => ?_⟩, ?_⟩
      · rw [z_up6, q2]
        by_cases q : 144 * m + 6 * i ≤ j ∧ j < 144 * m + 6 * i + 6
        · rw [if_pos q, if_pos (by omega), show (j - 144 * m) / 6 = i by omega, show (j - 144 * m) % 6 = j - (144 * m + 6 * i) by omega]
        · rw [if_neg q]
          by_cases q3 : 144 * m ≤ j ∧ j < 144 * m + 6 * i
          · rw [if_pos q3, if_pos (by omega)]
          · rw [if_neg q3, if_neg (by omega)]
      · have k2 : k_f6 I i 2 = I 87 i := rfl
        have k3 : k_f6 I i 3 = I 88 i := rfl
        have k4 : k_f6 I i 4 = I 89 i := rfl
        have k5 : k_f6 I i 5 = I 90 i := rfl
        have k0 : k_f6 I i 0 = if I 85 i = z_n 0 then z_n 0 else z_n 1 := rfl
        have k1 : k_f6 I i 1 = if I 86 i = z_n 0 then z_n 0 else z_n 1 := rfl
        rw [k2, k3, k4, k5, k0, k1]
        rcases z_tf (I 85 i = z_n 0) with c0 | c0 <;> rcases z_tf (I 86 i = z_n 0) with c1 | c1 <;> simp (disch := omega) only [f_Mo_keeps_L33, hi, z_Mr hS hP, z_Mw hS, e85, e86, e87, e88, e89, e90, u86, u87, u88, u89, u90, c0, c1, or_true, true_or, or_false, false_or, z_b_T, z_b_F, Bool.false_eq_true, Classical.not_not, decide_eq_true_eq, z_sq, Option.bind_some, z_lits, z_n_add, z_n_mul, z_lt, z_le, z_eq, z_ne1, z_1ne, z_lt1, z_1lt, z_ltT, z_ltF, z_leT, z_leF, z_eqF, z_b_0, z_b_1, ↓reduceIte, eq_self, not_true_eq_false, not_false_eq_true, and_true, true_and, and_false, false_and, Nat.add_zero, Nat.zero_add])
    (by
      intro k Y ⟨q1, q2⟩
      refine ⟨Y, ?_, q1, q2⟩
      simp (disch := omega) only [f_Mo_keeps_L33, Nat.lt_irrefl, or_true, true_or, or_false, false_or, z_b_T, z_b_F, Bool.false_eq_true, Classical.not_not, decide_eq_true_eq, z_sq, Option.bind_some, z_lits, z_n_add, z_n_mul, z_lt, z_le, z_eq, z_ne1, z_1ne, z_lt1, z_1lt, z_ltT, z_ltF, z_leT, z_leF, z_eqF, z_b_0, z_b_1, ↓reduceIte, eq_self, not_true_eq_false, not_false_eq_true, and_true, true_and, and_false, false_and, Nat.add_zero, Nat.zero_add])
    (x := I) ⟨fun _ _ => rfl, fun j => by rw [if_neg (by omega)]⟩
set_option maxRecDepth 100000 in
set_option maxHeartbeats 4000000 in
theorem M_keep156 (hS : z_St S) (hP : z_Pt P) {m : Nat} (hm : m < 4) : ∃ Y Z, f_Mo_keeps_L156 83 (z_n m) q_FU (z_n 0) (z_h S I J P n) = some ((), z_h S Y Z P n) ∧ (∀ a, a ≠ 128 → Y a = I a) ∧ (∀ a, a ≠ 129 → Z a = J a) ∧ (∀ j, Y 128 j = if 1440 * m ≤ j ∧ j < 1440 * m + 1440 then I (91 + (j - 1440 * m) % 5) ((j - 1440 * m) / 5) else I 128 j) ∧ ∀ j, Z 129 j = if 864 * m ≤ j ∧ j < 864 * m + 864 then J (96 + (j - 864 * m) % 3) ((j - 864 * m) / 3) else J 129 j := by
  exact z_runI (fun k i (Y : z_MI × z_MJ) => f_Mo_keeps_L156 83 (z_n m) k (z_n i) (z_h S Y.1 Y.2 P n)) 288
    (fun i Y => (∀ a, a ≠ 128 → Y.1 a = I a) ∧ (∀ a, a ≠ 129 → Y.2 a = J a) ∧ (∀ j, Y.1 128 j = if 1440 * m ≤ j ∧ j < 1440 * m + 5 * i then I (91 + (j - 1440 * m) % 5) ((j - 1440 * m) / 5) else I 128 j) ∧ ∀ j, Y.2 129 j = if 864 * m ≤ j ∧ j < 864 * m + 3 * i then J (96 + (j - 864 * m) % 3) ((j - 864 * m) / 3) else J 129 j)
    (fun r => ∃ Y Z, r = some ((), z_h S Y Z P n) ∧ (∀ a, a ≠ 128 → Y a = I a) ∧ (∀ a, a ≠ 129 → Z a = J a) ∧ (∀ j, Y 128 j = if 1440 * m ≤ j ∧ j < 1440 * m + 1440 then I (91 + (j - 1440 * m) % 5) ((j - 1440 * m) / 5) else I 128 j) ∧ ∀ j, Z 129 j = if 864 * m ≤ j ∧ j < 864 * m + 864 then J (96 + (j - 864 * m) % 3) ((j - 864 * m) / 3) else J 129 j) (by omega)
    (by
      intro k i ⟨Y, Z⟩ hi ⟨q1, p1, q2, p2⟩
      simp only at q1 p1 q2 p2 ⊢
      have e : ∀ a, a ≠ 128 → Y a i = I a i := fun a ha => by rw [q1 a ha]
      have f : ∀ a, a ≠ 129 → Z a i = J a i := fun a ha => by rw [p1 a ha]
      have u : ∀ X a b v, a ≠ 128 → z_up X 128 b v a i = X a i := fun X a b v h => by rw [z_ups h]
      have w : ∀ X a b v, a ≠ 129 → z_uj X 129 b v a i = X a i := fun X a b v h => by rw [z_uj_r h]
      have e91 := e 91 (by decide)
      have e92 := e 92 (by decide)
      have e93 := e 93 (by decide)
      have e94 := e 94 (by decide)
      have e95 := e 95 (by decide)
      have f96 := f 96 (by decide)
      have f97 := f 97 (by decide)
      have f98 := f 98 (by decide)
      have u92 := fun X b v => u X 92 b v (by decide)
      have u93 := fun X b v => u X 93 b v (by decide)
      have u94 := fun X b v => u X 94 b v (by decide)
      have u95 := fun X b v => u X 95 b v (by decide)
      have w97 := fun X b v => w X 97 b v (by decide)
      have w98 := fun X b v => w X 98 b v (by decide)
      refine ⟨(z_up (z_up (z_up (z_up (z_up Y 128 (1440 * m + 5 * i) (I (91 + 0) i)) 128 (1440 * m + 5 * i + 1) (I (91 + 1) i)) 128 (1440 * m + 5 * i + 2) (I (91 + 2) i)) 128 (1440 * m + 5 * i + 3) (I (91 + 3) i)) 128 (1440 * m + 5 * i + 4) (I (91 + 4) i), z_uj (z_uj (z_uj Z 129 (864 * m + 3 * i) (J (96 + 0) i)) 129 (864 * m + 3 * i + 1) (J (96 + 1) i)) 129 (864 * m + 3 * i + 2) (J (96 + 2) i)), ⟨fun a ha => ?_, fun a ha => ?_, fun j => ?_, fun j => ?_⟩, ?_⟩
      · show z_up _ _ _ _ a = _
        rw [z_ups ha, z_ups ha, z_ups ha, z_ups ha, z_ups ha]; exact q1 a ha
      · show z_uj _ _ _ _ a = _
        rw [z_uj_r ha, z_uj_r ha, z_uj_r ha]; exact p1 a ha
      · show z_up _ _ _ _ 128 j = _
        rw [z_up5 Y 128 (1440 * m + 5 * i) (fun k => I (91 + k) i), q2]
        by_cases q : 1440 * m + 5 * i ≤ j ∧ j < 1440 * m + 5 * i + 5
        · rw [if_pos q, if_pos (by omega), show (j - 1440 * m) / 5 = i by omega, show (j - 1440 * m) % 5 = j - (1440 * m + 5 * i) by omega]
        · rw [if_neg q]
          by_cases q3 : 1440 * m ≤ j ∧ j < 1440 * m + 5 * i
          · rw [if_pos q3, if_pos (by omega)]
          · rw [if_neg q3, if_neg (by omega)]
      · show z_uj _ _ _ _ 129 j = _
        rw [z_uj3 Z 129 (864 * m + 3 * i) (fun k => J (96 + k) i), p2]
        by_cases q : 864 * m + 3 * i ≤ j ∧ j < 864 * m + 3 * i + 3
        · rw [if_pos q, if_pos (by omega), show (j - 864 * m) / 3 = i by omega, show (j - 864 * m) % 3 = j - (864 * m + 3 * i) by omega]
        · rw [if_neg q]
          by_cases q3 : 864 * m ≤ j ∧ j < 864 * m + 3 * i
          · rw [if_pos q3, if_pos (by omega)]
          · rw [if_neg q3, if_neg (by omega)]
      · simp (disch := omega) only [f_Mo_keeps_L156, hi, z_Mr hS hP, z_Mw hS, e91, e92, e93, e94, e95, f96, f97, f98, u92, u93, u94, u95, w97, w98, or_true, true_or, or_false, false_or, z_b_T, z_b_F, Bool.false_eq_true, Classical.not_not, decide_eq_true_eq, z_sq, Option.bind_some, z_lits, z_n_add, z_n_mul, z_lt, z_le, z_eq, z_ne1, z_1ne, z_lt1, z_1lt, z_ltT, z_ltF, z_leT, z_leF, z_eqF, z_b_0, z_b_1, ↓reduceIte, eq_self, not_true_eq_false, not_false_eq_true, and_true, true_and, and_false, false_and, Nat.add_zero, Nat.zero_add, Nat.reduceAdd])
    (by
      intro k ⟨Y, Z⟩ ⟨q1, p1, q2, p2⟩
      simp only at q1 p1 q2 p2 ⊢
      refine ⟨Y, Z, ?_, q1, p1, q2, p2⟩
      simp (disch := omega) only [f_Mo_keeps_L156, Nat.lt_irrefl, or_true, true_or, or_false, false_or, z_b_T, z_b_F, Bool.false_eq_true, Classical.not_not, decide_eq_true_eq, z_sq, Option.bind_some, z_lits, z_n_add, z_n_mul, z_lt, z_le, z_eq, z_ne1, z_1ne, z_lt1, z_1lt, z_ltT, z_ltF, z_leT, z_leF, z_eqF, z_b_0, z_b_1, ↓reduceIte, eq_self, not_true_eq_false, not_false_eq_true, and_true, true_and, and_false, false_and, Nat.add_zero, Nat.zero_add])
    (x := (I, J)) ⟨fun _ _ => rfl, fun _ _ => rfl, fun j => by rw [if_neg (by omega)], fun j => by rw [if_neg (by omega)]⟩
set_option maxRecDepth 100000 in
set_option maxHeartbeats 4000000 in
theorem M_keeps (hS : z_St S) (hP : z_Pt P) {m : Nat} (hm : m < 4) : ∃ Y Z, f_Mo_keeps 83 (z_n m) (z_h S I J P n) = some ((), z_h S Y Z P n) ∧ (∀ a, (a < 126 ∨ 128 < a) → Y a = I a) ∧ (∀ a, a ≠ 129 → Z a = J a) ∧ (∀ j, Y 126 j = if 6 * m ≤ j ∧ j < 6 * m + 6 then I 84 (j - 6 * m) else I 126 j) ∧ (∀ j, Y 127 j = if 144 * m ≤ j ∧ j < 144 * m + 144 then k_f6 I ((j - 144 * m) / 6) ((j - 144 * m) % 6) else I 127 j) ∧ (∀ j, Y 128 j = if 1440 * m ≤ j ∧ j < 1440 * m + 1440 then I (91 + (j - 1440 * m) % 5) ((j - 1440 * m) / 5) else I 128 j) ∧ ∀ j, Z 129 j = if 864 * m ≤ j ∧ j < 864 * m + 864 then J (96 + (j - 864 * m) % 3) ((j - 864 * m) / 3) else J 129 j := by
  obtain ⟨A, a1, a2, a3⟩ := M_keep2 (I := I) (J := J) (n := n) hS hP hm
  obtain ⟨C, b1, b2, b3⟩ := M_keep33 (I := A) (J := J) (n := n) hS hP hm
  obtain ⟨Y, Z, c1, c2, c3, c4, c5⟩ := M_keep156 (I := C) (J := J) (n := n) hS hP hm
  refine ⟨Y, Z, ?_, fun a ha => by rw [c2 a (by omega), b2 a (by omega), a2 a (by omega)], c3, fun j => by rw [c2 126 (by decide), b2 126 (by decide)]; exact a3 j, fun j => ?_, fun j => ?_, c5⟩
  · simp (disch := omega) only [f_Mo_keeps, a1, b1, c1, or_true, true_or, or_false, false_or, z_b_T, z_b_F, Bool.false_eq_true, Classical.not_not, decide_eq_true_eq, z_sq, Option.bind_some, z_lits, z_n_add, z_n_mul, z_lt, z_le, z_eq, z_ne1, z_1ne, z_lt1, z_1lt, z_ltT, z_ltF, z_leT, z_leF, z_eqF, z_b_0, z_b_1, ↓reduceIte, eq_self, not_true_eq_false, not_false_eq_true, and_true, true_and, and_false, false_and, Nat.add_zero, Nat.zero_add]
  · rw [c2 127 (by decide), b3]
    have e : ∀ s k, k < 6 → k_f6 A s k = k_f6 I s k := by
      intro s k hk
      unfold k_f6
      rw [a2 85 (by decide), a2 86 (by decide), a2 (85 + k) (by omega)]
    by_cases q : 144 * m ≤ j ∧ j < 144 * m + 144
    · rw [if_pos q, if_pos q, e _ _ (by omega)]
    · rw [if_neg q, if_neg q, a2 127 (by decide)]
  · rw [c4]
    by_cases q : 1440 * m ≤ j ∧ j < 1440 * m + 1440
    · rw [if_pos q, if_pos q, b2 _ (by omega), a2 _ (by omega)]
    · rw [if_neg q, if_neg q, b2 128 (by decide), a2 128 (by decide)]
end
