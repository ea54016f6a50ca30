/-! WORLDS: who weds. -/
theorem z_neg_int {x : Nat} (h : x < 1000000) : (-(z_n x)).toInt = -(x : Int) := by
  rw [Int32.toInt_neg, z_n_int (by omega)]
  apply Int.bmod_eq_of_le <;> simp <;> omega
def w_nr (a b w : Nat) : Bool := decide (a ≤ b + w ∧ b ≤ a + w)
theorem z_sub_int {a b : Nat} (ha : a < 1000000) (hb : b < 1000000) : (z_n a - z_n b).toInt = (a : Int) - b := by
  rw [Int32.toInt_sub, z_n_int (by omega), z_n_int (by omega)]
  apply Int.bmod_eq_of_le <;> simp <;> omega
theorem w_near1 {a b w : Nat} (ha : a < 1000000) (hb : b < 1000000) (hw : w < 1000000) : (¬ z_n a - z_n b < -z_n w ∧ ¬ z_n w < z_n a - z_n b) = (w_nr a b w = true) := by
  apply propext
  rw [Int32.lt_iff_toInt_lt, Int32.lt_iff_toInt_lt, z_sub_int ha hb, z_neg_int hw, z_n_int (by omega)]
  unfold w_nr
  simp only [decide_eq_true_eq]
  omega
theorem w_near2 {a b w : Nat} (ha : a < 1000000) (hb : b < 1000000) (hw : w < 1000000) : (z_n w < if z_n 0 ≤ z_n a - z_n b then z_n a - z_n b else z_n 0 - (z_n a - z_n b)) = (w_nr a b w = false) := by
  have e : z_n 0 - (z_n a - z_n b) = z_n b - z_n a := by
    show (0 : Int32) - (z_n a - z_n b) = _
    rw [Int32.zero_sub, Int32.neg_sub]
  apply propext
  have h0 : (z_n 0 ≤ z_n a - z_n b) ↔ b ≤ a := by
    rw [Int32.le_iff_toInt_le, z_sub_int ha hb, z_n_int (by omega)]; omega
  unfold w_nr
  simp only [decide_eq_false_iff_not]
  by_cases h : b ≤ a
  · rw [if_pos (h0.2 h), Int32.lt_iff_toInt_lt, z_sub_int ha hb, z_n_int (by omega)]; omega
  · rw [if_neg (fun q => h (h0.1 q)), e, Int32.lt_iff_toInt_lt, z_sub_int hb ha, z_n_int (by omega)]; omega
/-- who may be the sister that i weds -/
def w_can (ag : Nat → Nat) (gl al md : Nat → Bool) (w i j : Nat) : Bool := gl j && (al j && !md j) && decide (12 ≤ ag j) && w_nr (ag j) (ag i) w
def w_who (ag : Nat → Nat) (gl al md : Nat → Bool) (w c i : Nat) : Nat := z_ff (w_can ag gl al md w i) c
/-- the draws' state, who is married, weddings, sisters wed -/
abbrev w_W := Nat × (Nat → Bool) × Nat × Nat
def w_bro (ag : Nat → Nat) (gl al : Nat → Bool) (i : Nat) : Bool := !gl i && al i && decide (15 ≤ ag i)
def w_step (nx : Nat → Nat) (dr : Nat → Nat → Nat) (ag : Nat → Nat) (gl al : Nat → Bool) (w o c : Nat) (X : w_W) (i : Nat) : w_W :=
  if w_bro ag gl al i = true then
    if w_who ag gl al X.2.1 w c i < c then
      if dr (nx X.1) 10 < o then ⟨nx X.1, fun j => if j = w_who ag gl al X.2.1 w c i then true else X.2.1 j, X.2.2.1 + 1, X.2.2.2 + 1⟩
      else ⟨nx X.1, X.2.1, X.2.2.1 + 1, X.2.2.2⟩
    else ⟨X.1, X.2.1, X.2.2.1 + 1, X.2.2.2⟩
  else X
def w_weds (nx : Nat → Nat) (dr : Nat → Nat → Nat) (ag : Nat → Nat) (gl al : Nat → Bool) (w o c : Nat) (X : w_W) : Nat → w_W
  | 0 => X
  | i + 1 => w_step nx dr ag gl al w o c (w_weds nx dr ag gl al w o c X i) i
section
variable {S : z_SH} {I : z_MI} {J : z_MJ} {P : z_MP} {K : Nat → Bool} {n : Nat × Nat}
set_option maxRecDepth 100000 in
set_option maxHeartbeats 4000000 in
theorem C_who (hS : z_St S) (hP : z_Pt P) {ag : Nat → Nat} {gl al md : Nat → Bool} {w c i : Nat} (hc : c ≤ 6) (hi : i < c) (hw : w ≤ 30) (hag : ∀ j, j < c → ag j ≤ 45 ∧ I 37 j = z_n (ag j)) (hgl : ∀ j, j < c → I 38 j = z_b (gl j = true)) (hal : ∀ j, j < c → I 39 j = z_b (al j = true)) (hmd : ∀ j, j < c → I 40 j = z_b (md j = true)) (h3 : I 36 3 = z_n c) : f_Wo_oldestSisterFor 36 (z_n i) (z_n w) (z_h S I J P n) = some ((if w_who ag gl al md w c i < c then z_n (w_who ag gl al md w c i) else -z_n 1), z_h S I J P n) := by
  have hle := z_ff_le (w_can ag gl al md w i) c
  have key := z_run (r := some ((if w_who ag gl al md w c i < c then Sum.inl (z_n (w_who ag gl al md w c i)) else Sum.inr ()), z_h S I J P n)) (fun m k => f_Wo_oldestSisterFor_L2 36 (z_n i) (z_n w) m (z_n k) (z_h S I J P n)) (w_who ag gl al md w c i) (by unfold w_who; omega)
    (by
      intro m j hj
      have hjc : j < c := by unfold w_who at hj; omega
      have no := z_ff_no _ _ _ hj
      obtain ⟨a1, a2⟩ := hag j hjc
      obtain ⟨b1, b2⟩ := hag i hi
      have g1 := hgl j hjc
      have l1 := hal j hjc
      have m1 := hmd j hjc
      unfold w_can at no
      cases hg : gl j <;> rw [hg] at g1 no <;> simp only [Bool.false_eq_true, z_b_F, z_b_T] at g1
      · simp (disch := omega) only [f_Wo_oldestSisterFor_L2, z_Wor hS hP, h3, g1, or_true, true_or, or_false, false_or, z_b_T, z_b_F, Bool.false_eq_true, Classical.not_not, decide_eq_true_eq, z_sq, Option.bind_some, z_lits, z_n_add, z_n_mul, z_lt, z_le, z_eq, z_ne1, z_1ne, z_lt1, z_1lt, z_ltT, z_ltF, z_leT, z_leF, z_eqF, z_b_0, z_b_1, ↓reduceIte, eq_self, not_true_eq_false, not_false_eq_true, and_true, true_and, and_false, false_and, Nat.add_zero, Nat.zero_add]
      cases hl : al j <;> rw [hl] at l1 no <;> simp only [Bool.false_eq_true, z_b_F, z_b_T] at l1
      · simp (disch := omega) only [f_Wo_oldestSisterFor_L2, z_Wor hS hP, h3, g1, l1, or_true, true_or, or_false, false_or, z_b_T, z_b_F, Bool.false_eq_true, Classical.not_not, decide_eq_true_eq, z_sq, Option.bind_some, z_lits, z_n_add, z_n_mul, z_lt, z_le, z_eq, z_ne1, z_1ne, z_lt1, z_1lt, z_ltT, z_ltF, z_leT, z_leF, z_eqF, z_b_0, z_b_1, ↓reduceIte, eq_self, not_true_eq_false, not_false_eq_true, and_true, true_and, and_false, false_and, Nat.add_zero, Nat.zero_add]
      by_cases h12 : ag j < 12
      · simp (disch := omega) only [f_Wo_oldestSisterFor_L2, z_Wor hS hP, h3, g1, l1, a2, h12, or_true, true_or, or_false, false_or, z_b_T, z_b_F, Bool.false_eq_true, Classical.not_not, decide_eq_true_eq, z_sq, Option.bind_some, z_lits, z_n_add, z_n_mul, z_lt, z_le, z_eq, z_ne1, z_1ne, z_lt1, z_1lt, z_ltT, z_ltF, z_leT, z_leF, z_eqF, z_b_0, z_b_1, ↓reduceIte, eq_self, not_true_eq_false, not_false_eq_true, and_true, true_and, and_false, false_and, Nat.add_zero, Nat.zero_add]
      cases hm : md j <;> rw [hm] at m1 no <;> simp only [Bool.false_eq_true, z_b_F, z_b_T] at m1
      · have nr : w_nr (ag j) (ag i) w = false := by
          simpa [show 12 ≤ ag j by omega] using no
        have nr2 := eq_true ((w_near2 (a := ag j) (b := ag i) (w := w) (by omega) (by omega) (by omega)).symm ▸ nr)
        simp (disch := omega) only [f_Wo_oldestSisterFor_L2, z_Wor hS hP, h3, g1, l1, a2, b2, h12, m1, nr2, or_true, true_or, or_false, false_or, z_b_T, z_b_F, Bool.false_eq_true, Classical.not_not, decide_eq_true_eq, z_sq, Option.bind_some, z_lits, z_n_add, z_n_mul, z_lt, z_le, z_eq, z_ne1, z_1ne, z_lt1, z_1lt, z_ltT, z_ltF, z_leT, z_leF, z_eqF, z_b_0, z_b_1, ↓reduceIte, eq_self, not_true_eq_false, not_false_eq_true, and_true, true_and, and_false, false_and, Nat.add_zero, Nat.zero_add]
      · simp (disch := omega) only [f_Wo_oldestSisterFor_L2, z_Wor hS hP, h3, g1, l1, a2, b2, h12, m1, or_true, true_or, or_false, false_or, z_b_T, z_b_F, Bool.false_eq_true, Classical.not_not, decide_eq_true_eq, z_sq, Option.bind_some, z_lits, z_n_add, z_n_mul, z_lt, z_le, z_eq, z_ne1, z_1ne, z_lt1, z_1lt, z_ltT, z_ltF, z_leT, z_leF, z_eqF, z_b_0, z_b_1, ↓reduceIte, eq_self, not_true_eq_false, not_false_eq_true, and_true, true_and, and_false, false_and, Nat.add_zero, Nat.zero_add])
    (by
      intro m
      by_cases hs : w_who ag gl al md w c i < c
      · rw [if_pos hs]
        have is := z_ff_is _ _ hs
        change w_can ag gl al md w i (w_who ag gl al md w c i) = true at is
        generalize w_who ag gl al md w c i = j at *
        obtain ⟨a1, a2⟩ := hag j hs
        obtain ⟨b1, b2⟩ := hag i hi
        have g1 := hgl j hs
        have l1 := hal j hs
        have m1 := hmd j hs
        unfold w_can at is
        simp only [Bool.and_eq_true, Bool.not_eq_true', decide_eq_true_eq] at is
        obtain ⟨⟨⟨e1, e2, e3⟩, e4⟩, e5⟩ := is
        simp only [e1, eq_self, z_b_T] at g1
        simp only [e2, eq_self, z_b_T] at l1
        rw [e3] at m1
        simp only [Bool.false_eq_true, z_b_F] at m1
        have h12 : ¬ ag j < 12 := by omega
        have nr2 := w_near2 (a := ag j) (b := ag i) (w := w) (by omega) (by omega) (by omega)
        rw [e5] at nr2
        simp (disch := omega) only [f_Wo_oldestSisterFor_L2, z_Wor hS hP, h3, g1, l1, a2, b2, h12, m1, nr2, Bool.true_eq_false, or_true, true_or, or_false, false_or, z_b_T, z_b_F, Bool.false_eq_true, Classical.not_not, decide_eq_true_eq, z_sq, Option.bind_some, z_lits, z_n_add, z_n_mul, z_lt, z_le, z_eq, z_ne1, z_1ne, z_lt1, z_1lt, z_ltT, z_ltF, z_leT, z_leF, z_eqF, z_b_0, z_b_1, ↓reduceIte, eq_self, not_true_eq_false, not_false_eq_true, and_true, true_and, and_false, false_and, Nat.add_zero, Nat.zero_add]
      · rw [if_neg hs]
        have hc' : w_who ag gl al md w c i = c := by unfold w_who at *; omega
        rw [hc']
        simp (disch := omega) only [f_Wo_oldestSisterFor_L2, z_Wor hS hP, h3, or_true, true_or, or_false, false_or, z_b_T, z_b_F, Bool.false_eq_true, Classical.not_not, decide_eq_true_eq, z_sq, Option.bind_some, z_lits, z_n_add, z_n_mul, z_lt, z_le, z_eq, z_ne1, z_1ne, z_lt1, z_1lt, z_ltT, z_ltF, z_leT, z_leF, z_eqF, z_b_0, z_b_1, ↓reduceIte, eq_self, not_true_eq_false, not_false_eq_true, and_true, true_and, and_false, false_and, Nat.add_zero, Nat.zero_add])
  unfold f_Wo_oldestSisterFor
  rw [show (0 : Int32) = z_n 0 from rfl, key, z_sq]
  by_cases hs : w_who ag gl al md w c i < c
  · rw [if_pos hs, if_pos hs]
  · rw [if_neg hs, if_neg hs]; rfl
set_option maxRecDepth 100000 in
set_option maxHeartbeats 4000000 in
theorem M_who {S : z_SH} {I : z_MI} {J : z_MJ} {P : z_MP} {n : Nat × Nat} (hS : z_St S) (hP : z_Pt P) {ag : Nat → Nat} {gl al md : Nat → Bool} {w c i : Nat} (hc : c ≤ 6) (hi : i < c) (hw : w ≤ 30) (hag : ∀ j, j < c → ag j ≤ 45 ∧ I 120 j = z_n (ag j)) (hgl : ∀ j, j < c → I 121 j = z_b (gl j = true)) (hfr : ∀ j, j < c → I 122 j = z_b ((al j && !md j) = true)) (v1 v3 : Int32) : ∀ (k : Nat) (fu : Nat) (acc : Int32), k ≤ c → k < fu → f_Mo_weds_L52 83 v1 (z_n w) v3 (z_n i) fu acc (z_n k - z_n 1) (z_h S I J P n) = some ((if z_ff (w_can ag gl al md w i) k < k then z_n (z_ff (w_can ag gl al md w i) k) else acc), z_h S I J P n)
  | _, 0, _, _, h => absurd h (Nat.not_lt_zero _)
  | 0, fu + 1, acc, _, _ => by
    have e : (z_n 0 - z_n 1 < z_n 0) = True := eq_true (by decide)
    simp (disch := omega) only [f_Mo_weds_L52, e, z_ff, Nat.lt_irrefl, or_true, true_or, or_false, false_or, z_b_T, z_b_F, Bool.false_eq_true, Classical.not_not, decide_eq_true_eq, z_sq, Option.bind_some, z_lits, z_n_add, z_n_mul, z_lt, z_le, z_eq, z_ne1, z_1ne, z_lt1, z_1lt, z_ltT, z_ltF, z_leT, z_leF, z_eqF, z_b_0, z_b_1, ↓reduceIte, eq_self, not_true_eq_false, not_false_eq_true, and_true, true_and, and_false, false_and, Nat.add_zero, Nat.zero_add]
  | k + 1, fu + 1, acc, hk, hf => by
    have e : z_n (k + 1) - z_n 1 = z_n k := by rw [z_n_sub (by omega)]; rfl
    have e2 : z_n k + -z_n 1 = z_n k - z_n 1 := by rw [Int32.sub_eq_add_neg]
    have ih := fun acc => M_who (n := n) (J := J) hS hP hc hi hw hag hgl hfr v1 v3 k fu acc (by omega) (by omega)
    rw [e]
    have hjc : k < c := by omega
    obtain ⟨a1, a2⟩ := hag k hjc
    obtain ⟨b1, b2⟩ := hag i hi
    have g1 := hgl k hjc
    have l1 := hfr k hjc
    have hle := z_ff_le (w_can ag gl al md w i) k
    have no : w_can ag gl al md w i k = false → (if z_ff (w_can ag gl al md w i) (k + 1) < k + 1 then z_n (z_ff (w_can ag gl al md w i) (k + 1)) else acc) = (if z_ff (w_can ag gl al md w i) k < k then z_n (z_ff (w_can ag gl al md w i) k) else acc) := by
      intro h
      rw [z_ff, h]
      by_cases q : z_ff (w_can ag gl al md w i) k < k
      · rw [if_pos q, if_pos q, if_pos (by omega)]
      · rw [if_neg q, if_neg q]; simp
    cases hg : gl k
    · rw [no (by unfold w_can; rw [hg]; rfl), ← ih acc]
      rw [hg] at g1; simp only [Bool.false_eq_true, z_b_F] at g1
      simp (disch := omega) only [f_Mo_weds_L52, z_Mr hS hP, g1, e2, or_true, true_or, or_false, false_or, z_b_T, z_b_F, Bool.false_eq_true, Classical.not_not, decide_eq_true_eq, z_sq, Option.bind_some, z_lits, z_n_add, z_n_mul, z_lt, z_le, z_eq, z_ne1, z_1ne, z_lt1, z_1lt, z_ltT, z_ltF, z_leT, z_leF, z_eqF, z_b_0, z_b_1, ↓reduceIte, eq_self, not_true_eq_false, not_false_eq_true, and_true, true_and, and_false, false_and, Nat.add_zero, Nat.zero_add]
    simp only [hg, eq_self, z_b_T] at g1
    cases hl : (al k && !md k)
    · rw [no (by unfold w_can; rw [hl, hg]; rfl), ← ih acc]
      rw [hl] at l1; simp only [Bool.false_eq_true, z_b_F] at l1
      simp (disch := omega) only [f_Mo_weds_L52, z_Mr hS hP, g1, l1, e2, or_true, true_or, or_false, false_or, z_b_T, z_b_F, Bool.false_eq_true, Classical.not_not, decide_eq_true_eq, z_sq, Option.bind_some, z_lits, z_n_add, z_n_mul, z_lt, z_le, z_eq, z_ne1, z_1ne, z_lt1, z_1lt, z_ltT, z_ltF, z_leT, z_leF, z_eqF, z_b_0, z_b_1, ↓reduceIte, eq_self, not_true_eq_false, not_false_eq_true, and_true, true_and, and_false, false_and, Nat.add_zero, Nat.zero_add]
    simp only [hl, eq_self, z_b_T] at l1
    by_cases h12 : ag k < 12
    · rw [no (by unfold w_can; rw [hl, hg, decide_eq_false (by omega)]; rfl), ← ih acc]
      simp (disch := omega) only [f_Mo_weds_L52, z_Mr hS hP, g1, l1, a2, h12, e2, or_true, true_or, or_false, false_or, z_b_T, z_b_F, Bool.false_eq_true, Classical.not_not, decide_eq_true_eq, z_sq, Option.bind_some, z_lits, z_n_add, z_n_mul, z_lt, z_le, z_eq, z_ne1, z_1ne, z_lt1, z_1lt, z_ltT, z_ltF, z_leT, z_leF, z_eqF, z_b_0, z_b_1, ↓reduceIte, eq_self, not_true_eq_false, not_false_eq_true, and_true, true_and, and_false, false_and, Nat.add_zero, Nat.zero_add]
    have nr := w_near1 (a := ag k) (b := ag i) (w := w) (by omega) (by omega) (by omega)
    cases hn : w_nr (ag k) (ag i) w
    · rw [no (by unfold w_can; rw [hl, hg, decide_eq_true (by omega), hn]; rfl), ← ih acc]
      rw [hn] at nr
      simp (disch := omega) only [f_Mo_weds_L52, z_Mr hS hP, g1, l1, a2, b2, h12, M_within, nr, e2, or_true, true_or, or_false, false_or, z_b_T, z_b_F, Bool.false_eq_true, Classical.not_not, decide_eq_true_eq, z_sq, Option.bind_some, z_lits, z_n_add, z_n_mul, z_lt, z_le, z_eq, z_ne1, z_1ne, z_lt1, z_1lt, z_ltT, z_ltF, z_leT, z_leF, z_eqF, z_b_0, z_b_1, ↓reduceIte, eq_self, not_true_eq_false, not_false_eq_true, and_true, true_and, and_false, false_and, Nat.add_zero, Nat.zero_add]
    · have yes : (if z_ff (w_can ag gl al md w i) (k + 1) < k + 1 then z_n (z_ff (w_can ag gl al md w i) (k + 1)) else acc) = (if z_ff (w_can ag gl al md w i) k < k then z_n (z_ff (w_can ag gl al md w i) k) else z_n k) := by
        have h : w_can ag gl al md w i k = true := by unfold w_can; rw [hl, hg, decide_eq_true (by omega), hn]; rfl
        rw [z_ff, h]
        by_cases q : z_ff (w_can ag gl al md w i) k < k
        · rw [if_pos q, if_pos q, if_pos (by omega)]
        · rw [if_neg q, if_neg q]; simp
      rw [yes, ← ih (z_n k)]
      rw [hn] at nr
      simp (disch := omega) only [f_Mo_weds_L52, z_Mr hS hP, g1, l1, a2, b2, h12, M_within, nr, e2, or_true, true_or, or_false, false_or, z_b_T, z_b_F, Bool.false_eq_true, Classical.not_not, decide_eq_true_eq, z_sq, Option.bind_some, z_lits, z_n_add, z_n_mul, z_lt, z_le, z_eq, z_ne1, z_1ne, z_lt1, z_1lt, z_ltT, z_ltF, z_leT, z_leF, z_eqF, z_b_0, z_b_1, ↓reduceIte, eq_self, not_true_eq_false, not_false_eq_true, and_true, true_and, and_false, false_and, Nat.add_zero, Nat.zero_add]
theorem w_weds_lt {nx : Nat → Nat} {dr : Nat → Nat → Nat} (hnx : ∀ g, nx g < 2147483648) {ag : Nat → Nat} {gl al : Nat → Bool} {w o c : Nat} {X : w_W} (hX : X.1 < 2147483648) : ∀ i, (w_weds nx dr ag gl al w o c X i).1 < 2147483648
  | 0 => hX
  | i + 1 => by
    have ih := w_weds_lt (dr := dr) hnx (ag := ag) (gl := gl) (al := al) (w := w) (o := o) (c := c) hX i
    rw [w_weds, w_step]
    split
    · split
      · split
        · exact hnx _
        · exact hnx _
      · exact ih
    · exact ih
set_option maxRecDepth 100000 in
set_option maxHeartbeats 4000000 in
theorem C_weds (hS : z_St S) (hP : z_Pt P) {nx : Nat → Nat} {dr : Nat → Nat → Nat} (hnx : ∀ g, nx g < 2147483648) (hdr : ∀ g m, 0 < m → dr g m < m) (Dr : ∀ (I : z_MI) (J : z_MJ) (g m : Nat), J 36 2 = z_z (g : Nat) → g < 2147483648 → 0 < m → m ≤ 1000000 → f_Wo_draw 36 (z_n m) (z_h S I J P n) = some (z_n (dr (nx g) m), z_h S I (z_uj J 36 2 (z_z (nx g : Nat))) P n)) {ag : Nat → Nat} {gl al : Nat → Bool} {w o c : Nat} (hc : c ≤ 6) (hw : w ≤ 30) (ho : o ≤ 10) (hag : ∀ j, j < c → ag j ≤ 45 ∧ I 37 j = z_n (ag j)) (hgl : ∀ j, j < c → I 38 j = z_b (gl j = true)) (hal : ∀ j, j < c → I 39 j = z_b (al j = true)) {X : w_W} (hmd : ∀ j, j < c → I 40 j = z_b (X.2.1 j = true)) (h3 : I 36 3 = z_n c) (h0 : I 36 0 = z_n X.2.2.1) (h1 : I 36 1 = z_n X.2.2.2) (hg : J 36 2 = z_z (X.1 : Nat)) (h31 : X.1 < 2147483648) :
    ∃ I' J', f_Wo_marry 36 (z_n w) (z_n o) (z_h S I J P n) = some ((), z_h S I' J' P n) ∧ (∀ a, a ≠ 36 → a ≠ 40 → I' a = I a ∧ J' a = J a) ∧ I' 36 0 = z_n (w_weds nx dr ag gl al w o c X c).2.2.1 ∧ I' 36 1 = z_n (w_weds nx dr ag gl al w o c X c).2.2.2 ∧ J' 36 2 = z_z ((w_weds nx dr ag gl al w o c X c).1 : Nat) := by
  have key := z_runI (fun m i (Y : z_MI × z_MJ) => f_Wo_marry_L2 36 (z_n w) (z_n o) m (z_n i) (z_h S Y.1 Y.2 P n)) c
    (fun i Y => (∀ a, a ≠ 36 → a ≠ 40 → Y.1 a = I a ∧ Y.2 a = J a) ∧ Y.1 36 3 = z_n c ∧ Y.1 36 0 = z_n (w_weds nx dr ag gl al w o c X i).2.2.1 ∧ Y.1 36 1 = z_n (w_weds nx dr ag gl al w o c X i).2.2.2 ∧ Y.2 36 2 = z_z ((w_weds nx dr ag gl al w o c X i).1 : Nat) ∧ ∀ j, j < c → Y.1 40 j = z_b ((w_weds nx dr ag gl al w o c X i).2.1 j = true))
    (fun r => ∃ I' J', r = some ((), z_h S I' J' P n) ∧ (∀ a, a ≠ 36 → a ≠ 40 → I' a = I a ∧ J' a = J a) ∧ I' 36 0 = z_n (w_weds nx dr ag gl al w o c X c).2.2.1 ∧ I' 36 1 = z_n (w_weds nx dr ag gl al w o c X c).2.2.2 ∧ J' 36 2 = z_z ((w_weds nx dr ag gl al w o c X c).1 : Nat)) (by omega)
    (by
      intro m i ⟨I1, J1⟩ hi ⟨q1, q2, q3, q4, q5, q6⟩
      have W31 := w_weds_lt (dr := dr) hnx (ag := ag) (gl := gl) (al := al) (w := w) (o := o) (c := c) h31 i
      rw [show w_weds nx dr ag gl al w o c X (i + 1) = w_step nx dr ag gl al w o c (w_weds nx dr ag gl al w o c X i) i from rfl]
      simp only at q1 q2 q3 q4 q5 q6 ⊢
      generalize w_weds nx dr ag gl al w o c X i = W at *
      have r37 := (q1 37 (by omega) (by omega)).1
      have r38 := (q1 38 (by omega) (by omega)).1
      have r39 := (q1 39 (by omega) (by omega)).1
      obtain ⟨a1, a2⟩ := hag i hi
      have g1 := hgl i hi
      have l1 := hal i hi
      rw [← r37] at a2
      rw [← r38] at g1
      rw [← r39] at l1
      cases hgi : gl i
      rotate_left
      · simp only [hgi, eq_self, z_b_T] at g1
        refine ⟨(I1, J1), ⟨by rw [w_step, if_neg (by unfold w_bro; rw [hgi]; simp)]; exact ⟨q1, q2, q3, q4, q5, q6⟩, ?_⟩⟩
        simp (disch := omega) only [f_Wo_marry_L2, z_Wor hS hP, q2, g1, or_true, true_or, or_false, false_or, z_b_T, z_b_F, Bool.false_eq_true, Classical.not_not, decide_eq_true_eq, z_sq, Option.bind_some, z_lits, z_n_add, z_n_mul, z_lt, z_le, z_eq, z_ne1, z_1ne, z_lt1, z_1lt, z_ltT, z_ltF, z_leT, z_leF, z_eqF, z_b_0, z_b_1, ↓reduceIte, eq_self, not_true_eq_false, not_false_eq_true, and_true, true_and, and_false, false_and, Nat.add_zero, Nat.zero_add]
      simp only [hgi, Bool.false_eq_true, z_b_F] at g1
      cases hai : al i
      · simp only [hai, Bool.false_eq_true, z_b_F] at l1
        refine ⟨(I1, J1), ⟨by rw [w_step, if_neg (by unfold w_bro; rw [hgi, hai]; simp)]; exact ⟨q1, q2, q3, q4, q5, q6⟩, ?_⟩⟩
        simp (disch := omega) only [f_Wo_marry_L2, z_Wor hS hP, q2, g1, l1, or_true, true_or, or_false, false_or, z_b_T, z_b_F, Bool.false_eq_true, Classical.not_not, decide_eq_true_eq, z_sq, Option.bind_some, z_lits, z_n_add, z_n_mul, z_lt, z_le, z_eq, z_ne1, z_1ne, z_lt1, z_1lt, z_ltT, z_ltF, z_leT, z_leF, z_eqF, z_b_0, z_b_1, ↓reduceIte, eq_self, not_true_eq_false, not_false_eq_true, and_true, true_and, and_false, false_and, Nat.add_zero, Nat.zero_add]
      simp only [hai, eq_self, z_b_T] at l1
      by_cases h15 : ag i < 15
      · refine ⟨(I1, J1), ⟨by rw [w_step, if_neg (by unfold w_bro; rw [hgi, hai, decide_eq_false (by omega)]; decide)]; exact ⟨q1, q2, q3, q4, q5, q6⟩, ?_⟩⟩
        simp (disch := omega) only [f_Wo_marry_L2, z_Wor hS hP, q2, g1, l1, a2, h15, or_true, true_or, or_false, false_or, z_b_T, z_b_F, Bool.false_eq_true, Classical.not_not, decide_eq_true_eq, z_sq, Option.bind_some, z_lits, z_n_add, z_n_mul, z_lt, z_le, z_eq, z_ne1, z_1ne, z_lt1, z_1lt, z_ltT, z_ltF, z_leT, z_leF, z_eqF, z_b_0, z_b_1, ↓reduceIte, eq_self, not_true_eq_false, not_false_eq_true, and_true, true_and, and_false, false_and, Nat.add_zero, Nat.zero_add]
      have hb : w_bro ag gl al i = true := by unfold w_bro; rw [hgi, hai, decide_eq_true (by omega)]; rfl
      rw [w_step, if_pos hb]
      have who := C_who (S := S) (I := z_up I1 36 0 (z_n (W.2.2.1 + 1))) (J := J1) (P := P) (n := n) hS hP (ag := ag) (gl := gl) (al := al) (md := W.2.1) (w := w) (c := c) (i := i) hc hi hw
        (fun j hj => ⟨(hag j hj).1, by rw [z_up_a (by omega), r37]; exact (hag j hj).2⟩) (fun j hj => by rw [z_up_a (by omega), r38]; exact hgl j hj) (fun j hj => by rw [z_up_a (by omega), r39]; exact hal j hj) (fun j hj => by rw [z_up_a (by omega)]; exact q6 j hj) (by rw [z_up_i (by omega)]; exact q2)
      by_cases hs : w_who ag gl al W.2.1 w c i < c
      rotate_left
      · rw [if_neg hs] at who ⊢
        refine ⟨(z_up I1 36 0 (z_n (W.2.2.1 + 1)), J1), ⟨fun a h h' => ⟨?_, (q1 a h h').2⟩, ?_, ?_, ?_, q5, fun j hj => ?_⟩, ?_⟩
        · show z_up I1 36 0 (z_n (W.2.2.1 + 1)) a = _
          rw [z_up_r (by omega)]; exact (q1 a h h').1
        · show z_up I1 36 0 (z_n (W.2.2.1 + 1)) 36 3 = _
          rw [z_up_i (by omega)]; exact q2
        · show z_up I1 36 0 (z_n (W.2.2.1 + 1)) 36 0 = z_n (W.2.2.1 + 1)
          exact z_up_s _ _ _ _
        · show z_up I1 36 0 (z_n (W.2.2.1 + 1)) 36 1 = _
          rw [z_up_i (by omega)]; exact q4
        · show z_up I1 36 0 (z_n (W.2.2.1 + 1)) 40 j = _
          rw [z_up_a (by omega)]; exact q6 j hj
        · simp (disch := omega) only [f_Wo_marry_L2, z_Wor hS hP, z_Wow hS, q2, q3, g1, l1, a2, h15, who, or_true, true_or, or_false, false_or, z_b_T, z_b_F, Bool.false_eq_true, Classical.not_not, decide_eq_true_eq, z_sq, Option.bind_some, z_lits, z_n_add, z_n_mul, z_lt, z_le, z_eq, z_ne1, z_1ne, z_lt1, z_1lt, z_ltT, z_ltF, z_leT, z_leF, z_eqF, z_b_0, z_b_1, ↓reduceIte, eq_self, not_true_eq_false, not_false_eq_true, and_true, true_and, and_false, false_and, Nat.add_zero, Nat.zero_add]
      rw [if_pos hs] at who ⊢
      have d := Dr (z_up I1 36 0 (z_n (W.2.2.1 + 1))) J1 W.1 10 q5 W31 (by omega) (by omega)
      have dl := hdr (nx W.1) 10 (by omega)
      have e3 : z_up I1 36 0 (z_n (W.2.2.1 + 1)) 36 1 = z_n W.2.2.2 := by rw [z_up_i (by omega)]; exact q4
      have e3' : z_up (z_up I1 36 0 (z_n (W.2.2.1 + 1))) 40 (w_who ag gl al W.2.1 w c i) (z_n 1) 36 1 = z_n W.2.2.2 := by rw [z_up_a (by omega)]; exact e3
      by_cases hd : dr (nx W.1) 10 < o
      · rw [if_pos hd]
        generalize w_who ag gl al W.2.1 w c i = s at *
        refine ⟨(z_up (z_up (z_up I1 36 0 (z_n (W.2.2.1 + 1))) 40 s (z_n 1)) 36 1 (z_n (W.2.2.2 + 1)), z_uj J1 36 2 (z_z (nx W.1 : Nat))), ⟨fun a h h' => ⟨?_, ?_⟩, ?_, ?_, ?_, ?_, fun j hj => ?_⟩, ?_⟩
        · simp only
          rw [z_up_r (by omega), z_up_r (by omega), z_up_r (by omega)]; exact (q1 a h h').1
        · simp only
          rw [z_uj_r (by omega)]; exact (q1 a h h').2
        · simp only
          rw [z_up_i (by omega), z_up_a (by omega), z_up_i (by omega)]; exact q2
        · simp only
          rw [z_up_i (by omega), z_up_a (by omega), z_up_s]
        · simp only
          rw [z_up_s]
        · simp only
          rw [z_uj_s]
        · simp only
          rw [z_up_a (by omega)]
          by_cases hjs : j = s
          · subst hjs
            rw [z_up_s]; simp only [↓reduceIte, z_b_T]
          · rw [z_up_i hjs, z_up_a (by omega)]; simp only [hjs, ↓reduceIte]; exact q6 j hj
        · simp (disch := omega) only [f_Wo_marry_L2, z_Wor hS hP, z_Wow hS, q2, q3, g1, l1, a2, h15, who, d, hd, e3', or_true, true_or, or_false, false_or, z_b_T, z_b_F, Bool.false_eq_true, Classical.not_not, decide_eq_true_eq, z_sq, Option.bind_some, z_lits, z_n_add, z_n_mul, z_lt, z_le, z_eq, z_ne1, z_1ne, z_lt1, z_1lt, z_ltT, z_ltF, z_leT, z_leF, z_eqF, z_b_0, z_b_1, ↓reduceIte, eq_self, not_true_eq_false, not_false_eq_true, and_true, true_and, and_false, false_and, Nat.add_zero, Nat.zero_add]
      · rw [if_neg hd]
        generalize w_who ag gl al W.2.1 w c i = s at *
        refine ⟨(z_up I1 36 0 (z_n (W.2.2.1 + 1)), z_uj J1 36 2 (z_z (nx W.1 : Nat))), ⟨fun a h h' => ⟨?_, ?_⟩, ?_, ?_, ?_, ?_, fun j hj => ?_⟩, ?_⟩
        · simp only
          rw [z_up_r (by omega)]; exact (q1 a h h').1
        · simp only
          rw [z_uj_r (by omega)]; exact (q1 a h h').2
        · simp only
          rw [z_up_i (by omega)]; exact q2
        · simp only
          rw [z_up_s]
        · simp only
          rw [z_up_i (by omega)]; exact q4
        · simp only
          rw [z_uj_s]
        · simp only
          rw [z_up_a (by omega)]; exact q6 j hj
        · simp (disch := omega) only [f_Wo_marry_L2, z_Wor hS hP, z_Wow hS, q2, q3, g1, l1, a2, h15, who, d, hd, or_true, true_or, or_false, false_or, z_b_T, z_b_F, Bool.false_eq_true, Classical.not_not, decide_eq_true_eq, z_sq, Option.bind_some, z_lits, z_n_add, z_n_mul, z_lt, z_le, z_eq, z_ne1, z_1ne, z_lt1, z_1lt, z_ltT, z_ltF, z_leT, z_leF, z_eqF, z_b_0, z_b_1, ↓reduceIte, eq_self, not_true_eq_false, not_false_eq_true, and_true, true_and, and_false, false_and, Nat.add_zero, Nat.zero_add])
    (by
      intro m ⟨I1, J1⟩ ⟨q1, q2, q3, q4, q5, q6⟩
      simp only at q1 q2 q3 q4 q5 q6 ⊢
      refine ⟨I1, J1, ?_, q1, q3, q4, q5⟩
      simp (disch := omega) only [f_Wo_marry_L2, z_Wor hS hP, q2, or_true, true_or, or_false, false_or, z_b_T, z_b_F, Bool.false_eq_true, Classical.not_not, decide_eq_true_eq, z_sq, Option.bind_some, z_lits, z_n_add, z_n_mul, z_lt, z_le, z_eq, z_ne1, z_1ne, z_lt1, z_1lt, z_ltT, z_ltF, z_leT, z_leF, z_eqF, z_b_0, z_b_1, ↓reduceIte, eq_self, not_true_eq_false, not_false_eq_true, and_true, true_and, and_false, false_and, Nat.add_zero, Nat.zero_add])
    (x := (I, J)) ⟨fun _ _ _ => ⟨rfl, rfl⟩, h3, h0, h1, hg, hmd⟩
  obtain ⟨I', J', e1, e2⟩ := key
  refine ⟨I', J', ?_, e2⟩
  unfold f_Wo_marry
  rw [show (0 : Int32) = z_n 0 from rfl, e1, z_sq]
end
