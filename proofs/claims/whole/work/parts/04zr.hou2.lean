/-! ONE HOUSES: the class finds them anew: beginnings. -/
theorem z_up_e (I : z_MI) (a i : Nat) (v : Int32) (j : Nat) : z_up I a i v a j = if j = i then v else I a j := by
  unfold z_up
  simp only [true_and]
theorem z_pd_of {I I' : z_MI} {J : z_MJ} {p : Nat} {D : z_D} (h : z_pd I J p D) (e : ∀ a, p ≤ a → I' a = I a) : z_pd I' J p D :=
  ⟨by rw [e p (by omega)]; exact h.1, h.2.1, fun l hl => by rw [e (p + 4) (by omega), e (p + 5) (by omega), e (p + 6) (by omega), e (p + 7) (by omega), e (p + 8) (by omega)]; exact h.2.2 l hl⟩
section
variable {S : z_SH} {I X : z_MI} {J : z_MJ} {P : z_MP} {K : Nat → Bool} {n : Nat × Nat}
def h_x : Nat → Bool := fun a => decide (22 ≤ a) && decide (a ≤ 26)
theorem h_ag (h : ∀ a, (a < 22 ∨ 26 < a) → X a = I a) (N : Nat) : z_ag N h_x S I J P S X J P := by
  intro a _
  refine ⟨⟨rfl, rfl⟩, fun e => ⟨h a ?_, rfl⟩⟩
  unfold h_x at e
  simp only [Bool.and_eq_false_iff, decide_eq_false_iff_not] at e
  omega
theorem h_keep (K : Nat → Bool) : z_keep h_x K := by
  intro a e
  unfold h_x at e
  simp only [Bool.and_eq_true, decide_eq_true_eq] at e
  exact Or.inr (Or.inl e)
theorem h_B (B : z_B S I J P K n.1) (h : ∀ a, (a < 22 ∨ 26 < a) → X a = I a) : z_B S X J P K n.1 ∧ z_cg I J X J :=
  ⟨B.mono (h_keep K) (h_ag h _) (Nat.le_refl _), (h_ag (S := S) (J := J) (P := P) h n.1).cg (h_keep K) B.2.2.1.2 B.2.2.1.1⟩
theorem h_pg (B : z_B S I J P K n.1) (h : ∀ a, (a < 22 ∨ 26 < a) → X a = I a) {s : Nat} (hs : s < 24) (ht : z_th I s = true) : ∃ p, P 18 s = some p ∧ z_ps S P p ∧ z_pd X J p (z_Ds I J s) := by
  rcases B.pg hs with ⟨h1, h2⟩ | ⟨h1, p, h2, h3⟩
  · rw [h1] at ht; cases ht
  · exact ⟨p, h2, h3.2.1, z_pd_of h3.2.2.1 (fun a ha => h a (by have := h3.1.1; omega))⟩
theorem h_pn (B : z_B S I J P K n.1) {s : Nat} (hs : s < 24) (ht : ¬ z_th I s = true) : P 18 s = none := by
  rcases B.pg hs with ⟨h1, h2⟩ | ⟨h1, p, h2, h3⟩
  · exact h2
  · exact absurd h1 ht
theorem h_16 (B : z_B S I J P K n.1) (h : ∀ a, (a < 22 ∨ 26 < a) → X a = I a) {s : Nat} (hs : s < 24) : X 16 s = I 88 s := by
  rw [h 16 (by omega)]; exact (B.qC.1 s hs).2.2.1
set_option maxRecDepth 100000 in
set_option maxHeartbeats 4000000 in
theorem C_fbX (B : z_B S I J P K n.1) (h : ∀ a, (a < 22 ∨ 26 < a) → X a = I a) {s p l : Nat} (hs : s < 24) (hp : z_ps S P p) (hd : z_pd X J p (z_Ds I J s)) (hl : l < z_ln I s) : f_Sf_firstBorn 13 (z_n s) p (z_n l) (z_h S X J P n) = some (h_fb I J s l, z_h S X J P n) ∧ f_Sf_lastBorn 13 (z_n s) p (z_n l) (z_h S X J P n) = some (h_lb I J s l, z_h S X J P n) := by
  have c := C_fb (n := n) B.qS B.qP hs hp hd hl (B.qD hs).1
  rw [h_16 B h hs] at c
  exact c
set_option maxRecDepth 100000 in
set_option maxHeartbeats 4000000 in
theorem C_mt (B : z_B S I J P K n.1) (h : ∀ a, (a < 22 ∨ 26 < a) → X a = I a) {s t p q a : Nat} (hs : s < 24) (ht : t < 24) (hp : z_ps S P p) (hq : z_ps S P q) (hd : z_pd X J p (z_Ds I J s)) (he : z_pd X J q (z_Ds I J t)) (ha : a < z_ln I s) (sh : h_sh I s t = true) : f_Sf_match 13 (z_n s) p (z_n a) (z_n t) q (z_h S X J P n) = some ((if h_on I J s t a < z_ln I t then z_n (h_on I J s t a) else -z_n 1), z_h S X J P n) := by
  have c := C_match (n := n) B.qS B.qP hs ht hp hq hd he ha (B.qD hs).1 (B.qD ht)
  rw [h_16 B h hs, h_16 B h ht] at c
  unfold h_on
  rw [if_pos sh]
  exact c
set_option maxRecDepth 100000 in
set_option maxHeartbeats 4000000 in
theorem C_begin9 (hS : z_St S) (hP : z_Pt P) {s : Nat} (hs : s < 24) : ∃ X, f_Ho_begin_L9 22 13 (z_n s) q_FU (z_n 0) (z_h S I J P n) = some ((), z_h S X J P n) ∧ (∀ a, a ≠ 26 → X a = I a) ∧ ∀ j, X 26 j = if s * 4 ≤ j ∧ j < s * 4 + 4 then z_n 0 else I 26 j := by
  exact z_runI (fun m i (X : z_MI) => f_Ho_begin_L9 22 13 (z_n s) m (z_n i) (z_h S X J P n)) 4
    (fun i X => (∀ a, a ≠ 26 → X a = I a) ∧ ∀ j, X 26 j = if s * 4 ≤ j ∧ j < s * 4 + i then z_n 0 else I 26 j)
    (fun r => ∃ X, r = some ((), z_h S X J P n) ∧ (∀ a, a ≠ 26 → X a = I a) ∧ ∀ j, X 26 j = if s * 4 ≤ j ∧ j < s * 4 + 4 then z_n 0 else I 26 j) (by omega)
    (by
      intro m i X hi ⟨q1, q2⟩
      refine ⟨z_up X 26 (s * 4 + i) (z_n 0), ⟨fun a ha => by rw [z_up_r ha]; exact q1 a ha, fun j => ?_⟩, ?_⟩
      · rw [z_up_e, q2]
        by_cases e : j = s * 4 + i
        · rw [if_pos e, if_pos (by omega)]
        · rw [if_neg e]
          by_cases e2 : s * 4 ≤ j ∧ j < s * 4 + i
          · rw [if_pos e2, if_pos (by omega)]
          · rw [if_neg e2, if_neg (by omega)]
      · simp (disch := omega) only [f_Ho_begin_L9, z_Hor hS hP, z_How hS, or_true, true_or, or_false, false_or, z_b_T, z_b_F, Bool.false_eq_true, Classical.not_not, decide_eq_true_eq, z_sq, Option.bind_some, z_lits, z_n_add, z_n_mul, z_lt, z_le, z_eq, z_ne1, z_1ne, z_lt1, z_1lt, z_ltT, z_ltF, z_leT, z_leF, z_eqF, z_b_0, z_b_1, ↓reduceIte, eq_self, not_true_eq_false, not_false_eq_true, and_true, true_and, and_false, false_and, Nat.add_zero, Nat.zero_add])
    (by
      intro m X ⟨q1, q2⟩
      refine ⟨X, ?_, q1, q2⟩
      simp (disch := omega) only [f_Ho_begin_L9, or_true, true_or, or_false, false_or, z_b_T, z_b_F, Bool.false_eq_true, Classical.not_not, decide_eq_true_eq, z_sq, Option.bind_some, z_lits, z_n_add, z_n_mul, z_lt, z_le, z_eq, z_ne1, z_1ne, z_lt1, z_1lt, z_ltT, z_ltF, z_leT, z_leF, z_eqF, z_b_0, z_b_1, ↓reduceIte, eq_self, not_true_eq_false, not_false_eq_true, and_true, true_and, and_false, false_and, Nat.add_zero, Nat.zero_add])
    (x := I) ⟨fun _ _ => rfl, fun j => by rw [if_neg (by omega)]⟩
set_option maxRecDepth 100000 in
set_option maxHeartbeats 4000000 in
theorem C_begin40 (B : z_B S I J P K n.1) (hX : ∀ a, (a < 22 ∨ 26 < a) → X a = I a) {s p : Nat} (hs : s < 24) (hp : z_ps S P p) (hd : z_pd X J p (z_Ds I J s)) (h131 : 131 ≤ p) : ∃ Y, f_Ho_begin_L40 22 13 (z_n s) (some p) q_FU (z_n 0) (z_h S X J P n) = some ((), z_h S Y J P n) ∧ (∀ a, a ≠ 24 → a ≠ 25 → Y a = X a) ∧ ∀ j, (Y 24 j = if s * 12 ≤ j ∧ j < s * 12 + z_ln I s then h_fb I J s (j - s * 12) else X 24 j) ∧ (Y 25 j = if s * 12 ≤ j ∧ j < s * 12 + z_ln I s then h_lb I J s (j - s * 12) else X 25 j) := by
  have hS := B.qS
  have hP := B.qP
  have l12 : z_ln I s ≤ 12 := (B.qD hs).1
  exact z_runI (fun m i (Y : z_MI) => f_Ho_begin_L40 22 13 (z_n s) (some p) m (z_n i) (z_h S Y J P n)) (z_ln I s)
    (fun i Y => (∀ a, a ≠ 24 → a ≠ 25 → Y a = X a) ∧ ∀ j, (Y 24 j = if s * 12 ≤ j ∧ j < s * 12 + i then h_fb I J s (j - s * 12) else X 24 j) ∧ (Y 25 j = if s * 12 ≤ j ∧ j < s * 12 + i then h_lb I J s (j - s * 12) else X 25 j))
    (fun r => ∃ Y, r = some ((), z_h S Y J P n) ∧ (∀ a, a ≠ 24 → a ≠ 25 → Y a = X a) ∧ ∀ j, (Y 24 j = if s * 12 ≤ j ∧ j < s * 12 + z_ln I s then h_fb I J s (j - s * 12) else X 24 j) ∧ (Y 25 j = if s * 12 ≤ j ∧ j < s * 12 + z_ln I s then h_lb I J s (j - s * 12) else X 25 j)) (by omega)
    (by
      intro m i Y hi ⟨q1, q2⟩
      have hY : ∀ a, (a < 22 ∨ 26 < a) → Y a = I a := fun a ha => (q1 a (by omega) (by omega)).trans (hX a ha)
      have hdY : z_pd Y J p (z_Ds I J s) := z_pd_of hd (fun a ha => q1 a (by omega) (by omega))
      have hY1 : ∀ a, (a < 22 ∨ 26 < a) → z_up Y 24 (s * 12 + i) (h_fb I J s i) a = I a := fun a ha => by rw [z_up_r (by omega)]; exact hY a ha
      have hdY1 : z_pd (z_up Y 24 (s * 12 + i) (h_fb I J s i)) J p (z_Ds I J s) := z_pd_of hdY (fun a ha => z_up_r (by omega))
      have f1 := (C_fbX (n := n) B hY hs hp hdY hi).1
      have f2 := (C_fbX (n := n) B hY1 hs hp hdY1 hi).2
      have sz : Y p 0 = z_n (z_ln I s) := hdY.1
      have r1 := z_ps_r hp
      have hob := fun I J => z_ob (I := I) (J := J) (P := P) (n := n) (s_13 hS)
      refine ⟨z_up (z_up Y 24 (s * 12 + i) (h_fb I J s i)) 25 (s * 12 + i) (h_lb I J s i), ⟨fun a h4 h5 => by rw [z_up_r h5, z_up_r h4]; exact q1 a h4 h5, fun j => ⟨?_, ?_⟩⟩, ?_⟩
      · rw [z_up_r (by decide), z_up_e, (q2 j).1]
        by_cases e : j = s * 12 + i
        · rw [if_pos e, if_pos (by omega), e, Nat.add_sub_cancel_left]
        · rw [if_neg e]
          by_cases e2 : s * 12 ≤ j ∧ j < s * 12 + i
          · rw [if_pos e2, if_pos (by omega)]
          · rw [if_neg e2, if_neg (by omega)]
      · rw [z_up_e, z_up_r (by decide), (q2 j).2]
        by_cases e : j = s * 12 + i
        · rw [if_pos e, if_pos (by omega), e, Nat.add_sub_cancel_left]
        · rw [if_neg e]
          by_cases e2 : s * 12 ≤ j ∧ j < s * 12 + i
          · rw [if_pos e2, if_pos (by omega)]
          · rw [if_neg e2, if_neg (by omega)]
      · simp (disch := omega) only [f_Ho_begin_L40, r1, sz, hi, hob, f1, f2, z_Hor hS hP, z_How hS, or_true, true_or, or_false, false_or, z_b_T, z_b_F, Bool.false_eq_true, Classical.not_not, decide_eq_true_eq, z_sq, Option.bind_some, z_lits, z_n_add, z_n_mul, z_lt, z_le, z_eq, z_ne1, z_1ne, z_lt1, z_1lt, z_ltT, z_ltF, z_leT, z_leF, z_eqF, z_b_0, z_b_1, ↓reduceIte, eq_self, not_true_eq_false, not_false_eq_true, and_true, true_and, and_false, false_and, Nat.add_zero, Nat.zero_add])
    (by
      intro m Y ⟨q1, q2⟩
      have hdY : z_pd Y J p (z_Ds I J s) := z_pd_of hd (fun a ha => q1 a (by omega) (by omega))
      have sz : Y p 0 = z_n (z_ln I s) := hdY.1
      have r1 := z_ps_r hp
      refine ⟨Y, ?_, q1, q2⟩
      simp (disch := omega) only [f_Ho_begin_L40, r1, sz, Nat.lt_irrefl, or_true, true_or, or_false, false_or, z_b_T, z_b_F, Bool.false_eq_true, Classical.not_not, decide_eq_true_eq, z_sq, Option.bind_some, z_lits, z_n_add, z_n_mul, z_lt, z_le, z_eq, z_ne1, z_1ne, z_lt1, z_1lt, z_ltT, z_ltF, z_leT, z_leF, z_eqF, z_b_0, z_b_1, ↓reduceIte, eq_self, not_true_eq_false, not_false_eq_true, and_true, true_and, and_false, false_and, Nat.add_zero, Nat.zero_add])
    (x := X) ⟨fun _ _ _ => rfl, fun j => ⟨by rw [if_neg (by omega)], by rw [if_neg (by omega)]⟩⟩
end
