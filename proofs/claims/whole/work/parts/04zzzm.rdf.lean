/-! READ: the reference's small steps. -/
/-- the sheet that is read: its lines so far -/
def k_mz (I : z_MI) (J : z_MJ) (D : z_D) : Prop := I 90 24 = z_n D.1 ∧ ∀ l, l < D.1 → (∀ k, k < 5 → I (91 + k) (288 + l) = D.2.1 k l) ∧ ∀ k, k < 3 → J (96 + k) (288 + l) = D.2.2 k l
/-- its last line -/
def k_ml (I : z_MI) (J : z_MJ) (D : z_D) : Prop := (∀ k, k < 5 → I (91 + k) (288 + D.1) = D.2.1 k D.1) ∧ ∀ k, k < 3 → J (96 + k) (288 + D.1) = D.2.2 k D.1
def k_5 (i : Nat) : Prop := i = 19 ∨ i = 20 ∨ i = 21 ∨ i = 23 ∨ i = 24
/-- what the reference's reading leaves as it was -/
def k_mf (I : z_MI) (J : z_MJ) (X : z_MI) (Z : z_MJ) : Prop := (∀ a, a ≠ 83 → (a < 90 ∨ 95 < a) → X a = I a) ∧ (∀ i, ¬ k_5 i → X 83 i = I 83 i) ∧ (∀ i, i ≠ 24 → X 90 i = I 90 i) ∧ (∀ k i, k < 5 → (i < 288 ∨ 300 ≤ i) → X (91 + k) i = I (91 + k) i) ∧
  (∀ a, a ≠ 83 → (a < 96 ∨ 98 < a) → Z a = J a) ∧ (∀ i, i ≠ 22 → Z 83 i = J 83 i) ∧ ∀ k i, k < 3 → (i < 288 ∨ 300 ≤ i) → Z (96 + k) i = J (96 + k) i
theorem k_mf.trans {I X X' : z_MI} {J Z Z' : z_MJ} (h : k_mf I J X Z) (g : k_mf X Z X' Z') : k_mf I J X' Z' := by
  obtain ⟨a1, a2, a3, a4, a5, a6, a7⟩ := h
  obtain ⟨b1, b2, b3, b4, b5, b6, b7⟩ := g
  exact ⟨fun a h1 h2 => (b1 a h1 h2).trans (a1 a h1 h2), fun i hi => (b2 i hi).trans (a2 i hi), fun i hi => (b3 i hi).trans (a3 i hi), fun k i h1 h2 => (b4 k i h1 h2).trans (a4 k i h1 h2), fun a h1 h2 => (b5 a h1 h2).trans (a5 a h1 h2), fun i hi => (b6 i hi).trans (a6 i hi), fun k i h1 h2 => (b7 k i h1 h2).trans (a7 k i h1 h2)⟩
theorem k_mf.rfl' (I : z_MI) (J : z_MJ) : k_mf I J I J := ⟨fun _ _ _ => rfl, fun _ _ => rfl, fun _ _ => rfl, fun _ _ _ _ => rfl, fun _ _ _ => rfl, fun _ _ => rfl, fun _ _ _ _ => rfl⟩
/-- a step that touches the reference's object alone -/
theorem k_mf_83 {I X : z_MI} {J Z : z_MJ} (h1 : ∀ a, a ≠ 83 → X a = I a) (h2 : ∀ i, ¬ k_5 i → X 83 i = I 83 i) (h3 : ∀ a, a ≠ 83 → Z a = J a) (h4 : ∀ i, i ≠ 22 → Z 83 i = J 83 i) : k_mf I J X Z :=
  ⟨fun a h _ => h1 a h, h2, fun i _ => by rw [h1 90 (by decide)], fun k i _ _ => by rw [h1 _ (by omega)], fun a h _ => h3 a h, h4, fun k i _ _ => by rw [h3 _ (by omega)]⟩
theorem k_mz.f {I X : z_MI} {J Z : z_MJ} {D : z_D} (h : k_mz I J D) (e : ∀ a, a ≠ 83 → X a = I a) (e2 : ∀ a, a ≠ 83 → Z a = J a) : k_mz X Z D :=
  ⟨by rw [e 90 (by decide)]; exact h.1, fun l hl => ⟨fun k hk => by rw [e _ (by omega)]; exact (h.2 l hl).1 k hk, fun k hk => by rw [e2 _ (by omega)]; exact (h.2 l hl).2 k hk⟩⟩
theorem k_ml.f {I X : z_MI} {J Z : z_MJ} {D : z_D} (h : k_ml I J D) (e : ∀ a, a ≠ 83 → X a = I a) (e2 : ∀ a, a ≠ 83 → Z a = J a) : k_ml X Z D :=
  ⟨fun k hk => by rw [e _ (by omega)]; exact h.1 k hk, fun k hk => by rw [e2 _ (by omega)]; exact h.2 k hk⟩
section
variable {S : z_SH} {I : z_MI} {J : z_MJ} {P : z_MP} {K : Nat → Bool} {n : Nat × Nat} {T : k_T} {p : Nat} {D : z_D}
set_option maxRecDepth 100000 in
set_option maxHeartbeats 4000000 in
theorem M_errs (hS : z_St S) (hP : z_Pt P) (k : k_M T p I J) (c : Nat) : f_Mo_errs 83 (z_n c) (z_h S I J P n) = some (z_n 0, z_h S (z_up I 83 24 (z_n (k_fl T c p))) J P n) := by
  have e := k.2.1
  have r20 : q_gi (q_gf (z_h S I J P n) 12 83 20) = some (z_n (k_b T p)) := by rw [z_gi (s_83 hS) rfl, e]
  have w24 : ∀ v, q_sf (z_h S I J P n) 12 83 24 (.int v) = some (z_h S (z_up I 83 24 v) J P n) := fun _ => z_sfi (s_83 hS) (by decide) rfl
  unfold f_Mo_errs k_fl
  rw [r20, Option.bind_some, show (16 : Int32) = z_n 16 from rfl, z_n_mul, z_n_add, w24, Option.bind_some]
  rfl
set_option maxRecDepth 100000 in
set_option maxHeartbeats 4000000 in
theorem M_isWord (hS : z_St S) (k : k_M T p I J) (w : Int64) : f_Mo_isWord 83 w (z_h S I J P n) = some (z_b (k_k T p = 1 ∧ k_vl T p = w), z_h S I J P n) := by
  have r21 : q_gi (q_gf (z_h S I J P n) 12 83 21) = some (z_n (k_k T p)) := by rw [z_gi (s_83 hS) rfl, k.2.2.1]
  have kk : k_k T p ≤ 4 := by unfold k_k; repeat (first | omega | split)
  by_cases q : k_k T p = 1
  · have r22 : q_gl' (q_gf (z_h S I J P n) 12 83 22) = some (k_vl T p) := by rw [z_gl (s_83 hS) rfl, k.2.2.2.1 q]
    by_cases q2 : k_vl T p = w
    · simp (disch := omega) only [f_Mo_isWord, r21, r22, q, q2, or_true, true_or, or_false, false_or, z_b_T, z_b_F, Bool.false_eq_true, Classical.not_not, decide_eq_true_eq, z_sq, Option.bind_some, z_lits, z_n_add, z_n_mul, z_lt, z_le, z_eq, z_ne1, z_1ne, z_lt1, z_1lt, z_ltT, z_ltF, z_leT, z_leF, z_eqF, z_b_0, z_b_1, ↓reduceIte, eq_self, not_true_eq_false, not_false_eq_true, and_true, true_and, and_false, false_and, Nat.add_zero, Nat.zero_add]
    · simp (disch := omega) only [f_Mo_isWord, r21, r22, q, q2, or_true, true_or, or_false, false_or, z_b_T, z_b_F, Bool.false_eq_true, Classical.not_not, decide_eq_true_eq, z_sq, Option.bind_some, z_lits, z_n_add, z_n_mul, z_lt, z_le, z_eq, z_ne1, z_1ne, z_lt1, z_1lt, z_ltT, z_ltF, z_leT, z_leF, z_eqF, z_b_0, z_b_1, ↓reduceIte, eq_self, not_true_eq_false, not_false_eq_true, and_true, true_and, and_false, false_and, Nat.add_zero, Nat.zero_add]
  · simp (disch := omega) only [f_Mo_isWord, r21, q, or_true, true_or, or_false, false_or, z_b_T, z_b_F, Bool.false_eq_true, Classical.not_not, decide_eq_true_eq, z_sq, Option.bind_some, z_lits, z_n_add, z_n_mul, z_lt, z_le, z_eq, z_ne1, z_1ne, z_lt1, z_1lt, z_ltT, z_ltF, z_leT, z_leF, z_eqF, z_b_0, z_b_1, ↓reduceIte, eq_self, not_true_eq_false, not_false_eq_true, and_true, true_and, and_false, false_and, Nat.add_zero, Nat.zero_add]
theorem k_ix_w {i : Nat} (h1 : k_k T p = 1) (hi : i < 10) (h : k_w1.getD i 0 = k_vl T p) : k_ix T k_w1 p = i := by
  unfold k_ix
  rw [decide_eq_true h1, ← h]
  have : ∀ i, i < 10 → z_ff (fun j => true && decide (k_w1.getD j 0 = k_w1.getD i 0)) k_w1.length = i := by decide
  exact this i hi
theorem k_ix_n (h : ∀ i, i < 10 → ¬ k_w1.getD i 0 = k_vl T p) : k_ix T k_w1 p = 10 := by
  have le := k_ix_le T k_w1 p
  have l10 : k_w1.length = 10 := rfl
  rw [l10] at le
  rcases Nat.lt_or_ge (k_ix T k_w1 p) 10 with g | g
  · have := z_ff_is (fun i => decide (k_k T p = 1) && decide (k_w1.getD i 0 = k_vl T p)) k_w1.length g
    rw [Bool.and_eq_true, decide_eq_true_eq, decide_eq_true_eq] at this
    exact absurd this.2 (h _ g)
  · omega
theorem k_ix_k (h : ¬ k_k T p = 1) : k_ix T k_w1 p = 10 := by
  have le := k_ix_le T k_w1 p
  have l10 : k_w1.length = 10 := rfl
  rw [l10] at le
  rcases Nat.lt_or_ge (k_ix T k_w1 p) 10 with g | g
  · have := z_ff_is (fun i => decide (k_k T p = 1) && decide (k_w1.getD i 0 = k_vl T p)) k_w1.length g
    rw [Bool.and_eq_true, decide_eq_true_eq, decide_eq_true_eq] at this
    exact absurd this.1 h
  · omega
set_option maxRecDepth 100000 in
set_option maxHeartbeats 4000000 in
theorem M_tag (hS : z_St S) (k : k_M T p I J) : f_Mo_tag 83 (z_h S I J P n) = some ((if k_ix T k_w1 p < 8 then z_n (k_ix T k_w1 p + 1) else z_n 0), z_h S I J P n) := by
  have r21 : q_gi (q_gf (z_h S I J P n) 12 83 21) = some (z_n (k_k T p)) := by rw [z_gi (s_83 hS) rfl, k.2.2.1]
  have kk : k_k T p ≤ 4 := by unfold k_k; repeat (first | omega | split)
  by_cases q : k_k T p = 1
  · have r22 : q_gl' (q_gf (z_h S I J P n) 12 83 22) = some (k_vl T p) := by rw [z_gl (s_83 hS) rfl, k.2.2.2.1 q]
    by_cases ex : ∃ i, i < 10 ∧ k_w1.getD i 0 = k_vl T p
    · obtain ⟨i, hi, e⟩ := ex
      rw [k_ix_w q hi e]
      rw [← e] at r22
      have cs : i = 0 ∨ i = 1 ∨ i = 2 ∨ i = 3 ∨ i = 4 ∨ i = 5 ∨ i = 6 ∨ i = 7 ∨ i = 8 ∨ i = 9 := by omega
      rcases cs with rfl | rfl | rfl | rfl | rfl | rfl | rfl | rfl | rfl | rfl
      · unfold f_Mo_tag; rw [r21, Option.bind_some, q, if_pos (show z_n 1 = (1 : Int32) from rfl), r22, Option.bind_some, if_pos (by decide)]; rfl
      · unfold f_Mo_tag; rw [r21, Option.bind_some, q, if_pos (show z_n 1 = (1 : Int32) from rfl), r22, Option.bind_some, if_neg (by decide), Option.bind_some, if_pos (by decide)]; rfl
      · unfold f_Mo_tag; rw [r21, Option.bind_some, q, if_pos (show z_n 1 = (1 : Int32) from rfl), r22, Option.bind_some, if_neg (by decide), Option.bind_some, if_neg (by decide), Option.bind_some, if_pos (by decide)]; rfl
      · unfold f_Mo_tag; rw [r21, Option.bind_some, q, if_pos (show z_n 1 = (1 : Int32) from rfl), r22, Option.bind_some, if_neg (by decide), Option.bind_some, if_neg (by decide), Option.bind_some, if_neg (by decide), Option.bind_some, if_pos (by decide)]; rfl
      · unfold f_Mo_tag; rw [r21, Option.bind_some, q, if_pos (show z_n 1 = (1 : Int32) from rfl), r22, Option.bind_some, if_neg (by decide), Option.bind_some, if_neg (by decide), Option.bind_some, if_neg (by decide), Option.bind_some, if_neg (by decide), Option.bind_some, if_pos (by decide)]; rfl
      · unfold f_Mo_tag; rw [r21, Option.bind_some, q, if_pos (show z_n 1 = (1 : Int32) from rfl), r22, Option.bind_some, if_neg (by decide), Option.bind_some, if_neg (by decide), Option.bind_some, if_neg (by decide), Option.bind_some, if_neg (by decide), Option.bind_some, if_neg (by decide), Option.bind_some, if_pos (by decide)]; rfl
      · unfold f_Mo_tag; rw [r21, Option.bind_some, q, if_pos (show z_n 1 = (1 : Int32) from rfl), r22, Option.bind_some, if_neg (by decide), Option.bind_some, if_neg (by decide), Option.bind_some, if_neg (by decide), Option.bind_some, if_neg (by decide), Option.bind_some, if_neg (by decide), Option.bind_some, if_neg (by decide), Option.bind_some, if_pos (by decide)]; rfl
      · unfold f_Mo_tag; rw [r21, Option.bind_some, q, if_pos (show z_n 1 = (1 : Int32) from rfl), r22, Option.bind_some, if_neg (by decide), Option.bind_some, if_neg (by decide), Option.bind_some, if_neg (by decide), Option.bind_some, if_neg (by decide), Option.bind_some, if_neg (by decide), Option.bind_some, if_neg (by decide), Option.bind_some, if_neg (by decide), Option.bind_some, if_pos (by decide)]; rfl
      · unfold f_Mo_tag; rw [r21, Option.bind_some, q, if_pos (show z_n 1 = (1 : Int32) from rfl), r22, Option.bind_some, if_neg (by decide), Option.bind_some, if_neg (by decide), Option.bind_some, if_neg (by decide), Option.bind_some, if_neg (by decide), Option.bind_some, if_neg (by decide), Option.bind_some, if_neg (by decide), Option.bind_some, if_neg (by decide), Option.bind_some, if_neg (by decide)]; rfl
      · unfold f_Mo_tag; rw [r21, Option.bind_some, q, if_pos (show z_n 1 = (1 : Int32) from rfl), r22, Option.bind_some, if_neg (by decide), Option.bind_some, if_neg (by decide), Option.bind_some, if_neg (by decide), Option.bind_some, if_neg (by decide), Option.bind_some, if_neg (by decide), Option.bind_some, if_neg (by decide), Option.bind_some, if_neg (by decide), Option.bind_some, if_neg (by decide)]; rfl
    · have no : ∀ i, i < 10 → ¬ k_w1.getD i 0 = k_vl T p := fun i hi e => ex ⟨i, hi, e⟩
      rw [k_ix_n no, if_neg (by omega)]
      unfold f_Mo_tag
      rw [r21, Option.bind_some, q, if_pos (show z_n 1 = (1 : Int32) from rfl), r22, Option.bind_some, if_neg (show ¬ k_vl T p = 87024528 from fun e => no 0 (by omega) e.symm), Option.bind_some, if_neg (show ¬ k_vl T p = 194907051 from fun e => no 1 (by omega) e.symm), Option.bind_some, if_neg (show ¬ k_vl T p = 459437 from fun e => no 2 (by omega) e.symm), Option.bind_some, if_neg (show ¬ k_vl T p = 277800912 from fun e => no 3 (by omega) e.symm), Option.bind_some, if_neg (show ¬ k_vl T p = 38567165 from fun e => no 4 (by omega) e.symm), Option.bind_some, if_neg (show ¬ k_vl T p = 10656671 from fun e => no 5 (by omega) e.symm), Option.bind_some, if_neg (show ¬ k_vl T p = 10334903 from fun e => no 6 (by omega) e.symm), Option.bind_some, if_neg (show ¬ k_vl T p = 180242487 from fun e => no 7 (by omega) e.symm)]
      rfl
  · rw [k_ix_k q, if_neg (by omega)]
    unfold f_Mo_tag
    rw [r21, Option.bind_some, if_neg (by rw [show (1 : Int32) = z_n 1 from rfl, z_eq (by omega) (by omega)]; exact q)]
    rfl
set_option maxRecDepth 100000 in
set_option maxHeartbeats 4000000 in
theorem M_isName (hS : z_St S) (k : k_M T p I J) : f_Mo_isName 83 (z_h S I J P n) = some (z_b (k_nm T p = true), z_h S I J P n) := by
  have r21 : q_gi (q_gf (z_h S I J P n) 12 83 21) = some (z_n (k_k T p)) := by rw [z_gi (s_83 hS) rfl, k.2.2.1]
  have kk : k_k T p ≤ 4 := by unfold k_k; repeat (first | omega | split)
  have tg := M_tag (P := P) (n := n) hS k
  have o := z_ob (I := I) (J := J) (P := P) (n := n) (s_83 hS)
  by_cases q : k_k T p = 1
  · have r22 : q_gl' (q_gf (z_h S I J P n) 12 83 22) = some (k_vl T p) := by rw [z_gl (s_83 hS) rfl, k.2.2.2.1 q]
    unfold f_Mo_isName
    rw [r21, Option.bind_some, q, if_pos (show z_n 1 = (1 : Int32) from rfl), o, Option.bind_some, tg, z_sq]
    by_cases ex : ∃ i, i < 10 ∧ k_w1.getD i 0 = k_vl T p
    · obtain ⟨i, hi, e⟩ := ex
      have ix := k_ix_w q hi e
      have nm : ¬ k_nm T p = true := by unfold k_nm; rw [decide_eq_true_eq]; omega
      rw [ix, z_b_f nm]
      by_cases i8 : i < 8
      · rw [if_pos i8, if_neg (by rw [show (0 : Int32) = z_n 0 from rfl, z_eq (by omega) (by omega)]; omega)]
        rfl
      · rw [if_neg i8, if_pos (show z_n 0 = (0 : Int32) from rfl), r22, Option.bind_some, ← e]
        have cs : i = 8 ∨ i = 9 := by omega
        rcases cs with rfl | rfl
        · rw [if_pos (by decide)]; rfl
        · rw [if_neg (by decide), Option.bind_some, if_pos (by decide)]; rfl
    · have no : ∀ i, i < 10 → ¬ k_w1.getD i 0 = k_vl T p := fun i hi e => ex ⟨i, hi, e⟩
      have ix := k_ix_n no
      have nm : k_nm T p = true := by unfold k_nm; rw [decide_eq_true_eq]; omega
      rw [ix, if_neg (show ¬ 10 < 8 by omega), if_pos (show z_n 0 = (0 : Int32) from rfl), r22, Option.bind_some, if_neg (show ¬ k_vl T p = 9518 from fun e => no 8 (by omega) e.symm), Option.bind_some, if_neg (show ¬ k_vl T p = 12527906 from fun e => no 9 (by omega) e.symm), z_b_t nm]
      rfl
  · have nm : ¬ k_nm T p = true := by unfold k_nm; rw [decide_eq_true_eq]; omega
    rw [z_b_f nm]
    unfold f_Mo_isName
    rw [r21, Option.bind_some, if_neg (by rw [show (1 : Int32) = z_n 1 from rfl, z_eq (by omega) (by omega)]; exact q)]
    rfl
set_option maxRecDepth 100000 in
set_option maxHeartbeats 4000000 in
theorem M_lineOf (hS : z_St S) (hP : z_Pt P) (h : k_mz I J D) (hD : D.1 ≤ 12) (x : Int64) : f_Mo_lineOf 83 x (z_h S I J P n) = some ((if d_nm x D < D.1 then z_n (d_nm x D) else -z_n 1), z_h S I J P n) := by
  have hle := z_ff_le (fun b => decide (D.2.2 0 b = x)) D.1
  have sz := h.1
  have key := z_run (r := some ((if d_nm x D < D.1 then Sum.inl (z_n (d_nm x D)) else Sum.inr ()), z_h S I J P n)) (fun m k => f_Mo_lineOf_L4 83 x m (z_n (288 + k)) (z_h S I J P n)) (d_nm x D) (by unfold d_nm; omega)
    (by
      intro m j hj
      have hjc : j < D.1 := by unfold d_nm at hj; omega
      have no := of_decide_eq_false (z_ff_no _ _ _ hj)
      have na : J 96 (288 + j) = D.2.2 0 j := (h.2 j hjc).2 0 (by omega)
      simp (disch := omega) only [f_Mo_lineOf_L4, z_Mr hS hP, sz, hjc, na, no, Nat.add_lt_add_iff_left, Nat.add_assoc, or_true, true_or, or_false, false_or, z_b_T, z_b_F, Bool.false_eq_true, Classical.not_not, decide_eq_true_eq, z_sq, Option.bind_some, z_lits, z_n_add, z_n_mul, z_lt, z_le, z_eq, z_ne1, z_1ne, z_lt1, z_1lt, z_ltT, z_ltF, z_leT, z_leF, z_eqF, z_b_0, z_b_1, ↓reduceIte, eq_self, not_true_eq_false, not_false_eq_true, and_true, true_and, and_false, false_and, Nat.add_zero, Nat.zero_add])
    (by
      intro m
      by_cases hs : d_nm x D < D.1
      · rw [if_pos hs]
        have is := of_decide_eq_true (z_ff_is _ _ hs)
        change D.2.2 0 (d_nm x D) = x at is
        have na : J 96 (288 + d_nm x D) = D.2.2 0 (d_nm x D) := (h.2 _ hs).2 0 (by omega)
        have sb : z_n (288 + d_nm x D) - z_n 288 = z_n (d_nm x D) := by rw [z_n_sub (by omega), Nat.add_sub_cancel_left]
        simp (disch := omega) only [f_Mo_lineOf_L4, z_Mr hS hP, sz, hs, na, is, sb, Nat.add_lt_add_iff_left, or_true, true_or, or_false, false_or, z_b_T, z_b_F, Bool.false_eq_true, Classical.not_not, decide_eq_true_eq, z_sq, Option.bind_some, z_lits, z_n_add, z_n_mul, z_lt, z_le, z_eq, z_ne1, z_1ne, z_lt1, z_1lt, z_ltT, z_ltF, z_leT, z_leF, z_eqF, z_b_0, z_b_1, ↓reduceIte, eq_self, not_true_eq_false, not_false_eq_true, and_true, true_and, and_false, false_and, Nat.add_zero, Nat.zero_add]
      · rw [if_neg hs]
        have hc' : d_nm x D = D.1 := by unfold d_nm at *; omega
        rw [hc']
        simp (disch := omega) only [f_Mo_lineOf_L4, z_Mr hS hP, sz, Nat.lt_irrefl, or_true, true_or, or_false, false_or, z_b_T, z_b_F, Bool.false_eq_true, Classical.not_not, decide_eq_true_eq, z_sq, Option.bind_some, z_lits, z_n_add, z_n_mul, z_lt, z_le, z_eq, z_ne1, z_1ne, z_lt1, z_1lt, z_ltT, z_ltF, z_leT, z_leF, z_eqF, z_b_0, z_b_1, ↓reduceIte, eq_self, not_true_eq_false, not_false_eq_true, and_true, true_and, and_false, false_and, Nat.add_zero, Nat.zero_add])
  unfold f_Mo_lineOf
  rw [show (288 : Int32) = z_n (288 + 0) from rfl, key, z_sq]
  by_cases hs : d_nm x D < D.1
  · rw [if_pos hs, if_pos hs]
  · rw [if_neg hs, if_neg hs]; rfl
set_option maxRecDepth 100000 in
set_option maxHeartbeats 4000000 in
theorem M_isWed (hS : z_St S) (hP : z_Pt P) (h : k_mz I J D) (hD : D.1 ≤ 12) (m : Nat) : f_Mo_isWed 83 (z_n m) (z_h S I J P n) = some (z_b (d_wed D m = true), z_h S I J P n) := by
  have hle := z_ff_le (fun i => decide (D.2.1 2 i = z_n m)) D.1
  have sz := h.1
  have key := z_run (r := some ((if z_ff (fun i => decide (D.2.1 2 i = z_n m)) D.1 < D.1 then Sum.inl (z_n 1) else Sum.inr ()), z_h S I J P n)) (fun f k => f_Mo_isWed_L4 83 (z_n m) f (z_n (288 + k)) (z_h S I J P n)) (z_ff (fun i => decide (D.2.1 2 i = z_n m)) D.1) (by omega)
    (by
      intro f j hj
      have hjc : j < D.1 := by omega
      have no := of_decide_eq_false (z_ff_no _ _ _ hj)
      have na : I 93 (288 + j) = D.2.1 2 j := (h.2 j hjc).1 2 (by omega)
      rw [← na] at no
      simp (disch := omega) only [f_Mo_isWed_L4, z_Mr hS hP, sz, hjc, no, Nat.add_lt_add_iff_left, Nat.add_assoc, or_true, true_or, or_false, false_or, z_b_T, z_b_F, Bool.false_eq_true, Classical.not_not, decide_eq_true_eq, z_sq, Option.bind_some, z_lits, z_n_add, z_n_mul, z_lt, z_le, z_eq, z_ne1, z_1ne, z_lt1, z_1lt, z_ltT, z_ltF, z_leT, z_leF, z_eqF, z_b_0, z_b_1, ↓reduceIte, eq_self, not_true_eq_false, not_false_eq_true, and_true, true_and, and_false, false_and, Nat.add_zero, Nat.zero_add])
    (by
      intro f
      by_cases hs : z_ff (fun i => decide (D.2.1 2 i = z_n m)) D.1 < D.1
      · rw [if_pos hs]
        have is := of_decide_eq_true (z_ff_is _ _ hs)
        have na : I 93 (288 + z_ff (fun i => decide (D.2.1 2 i = z_n m)) D.1) = _ := (h.2 _ hs).1 2 (by omega)
        rw [is] at na
        generalize z_ff (fun i => decide (D.2.1 2 i = z_n m)) D.1 = j at *
        simp (disch := omega) only [f_Mo_isWed_L4, z_Mr hS hP, sz, hs, na, Nat.add_lt_add_iff_left, or_true, true_or, or_false, false_or, z_b_T, z_b_F, Bool.false_eq_true, Classical.not_not, decide_eq_true_eq, z_sq, Option.bind_some, z_lits, z_n_add, z_n_mul, z_lt, z_le, z_eq, z_ne1, z_1ne, z_lt1, z_1lt, z_ltT, z_ltF, z_leT, z_leF, z_eqF, z_b_0, z_b_1, ↓reduceIte, eq_self, not_true_eq_false, not_false_eq_true, and_true, true_and, and_false, false_and, Nat.add_zero, Nat.zero_add]
      · rw [if_neg hs]
        have hc' : z_ff (fun i => decide (D.2.1 2 i = z_n m)) D.1 = D.1 := by omega
        rw [hc']
        simp (disch := omega) only [f_Mo_isWed_L4, z_Mr hS hP, sz, Nat.lt_irrefl, or_true, true_or, or_false, false_or, z_b_T, z_b_F, Bool.false_eq_true, Classical.not_not, decide_eq_true_eq, z_sq, Option.bind_some, z_lits, z_n_add, z_n_mul, z_lt, z_le, z_eq, z_ne1, z_1ne, z_lt1, z_1lt, z_ltT, z_ltF, z_leT, z_leF, z_eqF, z_b_0, z_b_1, ↓reduceIte, eq_self, not_true_eq_false, not_false_eq_true, and_true, true_and, and_false, false_and, Nat.add_zero, Nat.zero_add])
  unfold f_Mo_isWed d_wed
  rw [show (288 : Int32) = z_n (288 + 0) from rfl, key, z_sq]
  by_cases hs : z_ff (fun i => decide (D.2.1 2 i = z_n m)) D.1 < D.1
  · rw [if_pos hs, z_b_t (decide_eq_true hs)]
  · rw [if_neg hs, z_b_f (by rw [decide_eq_true_eq]; exact hs)]; rfl
end
