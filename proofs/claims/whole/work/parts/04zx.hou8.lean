/-! ONE HOUSES: the reference's rows, LEFT OUT. -/
theorem h_in_id {g : (Nat → Nat) → Nat → Nat → (Nat → Nat)} {r : Nat → Nat} {s : Nat} (h : ∀ q t, g q s t = q) : ∀ k, h_in g r s k = r
  | 0 => rfl
  | k + 1 => by rw [h_in, h, h_in_id h k]
section
variable {S S' : z_SH} {I Y : z_MI} {J JY : z_MJ} {P P' : z_MP} {K : Nat → Bool} {n n' : Nat × Nat}
def h_rm (I : z_MI) (J : z_MJ) (s : Nat) : Nat → Nat := h_ou (h_ms (h_nj I J)) s
set_option maxRecDepth 100000 in
set_option maxHeartbeats 4000000 in
theorem M_ho2 (hS' : z_St S') (hP' : z_Pt P') : ∃ Z, f_Mo_houses_L2 83 q_FU (z_n 0) (z_h S' Y JY P' n') = some ((), z_h S' Z JY P' n') ∧ (∀ b, b ≠ 100 → Z b = Y b) ∧ ∀ j, j < 24 → Z 100 j = z_n j := by
  exact z_runI (fun m i (Z : z_MI) => f_Mo_houses_L2 83 m (z_n i) (z_h S' Z JY P' n')) 24
    (fun i Z => (∀ b, b ≠ 100 → Z b = Y b) ∧ ∀ j, j < i → Z 100 j = z_n j)
    (fun q => ∃ Z, q = some ((), z_h S' Z JY P' n') ∧ (∀ b, b ≠ 100 → Z b = Y b) ∧ ∀ j, j < 24 → Z 100 j = z_n j) (by omega)
    (by
      intro m i Z hi ⟨q1, q2⟩
      refine ⟨z_up Z 100 i (z_n i), ⟨fun b hb => by rw [z_up_r hb]; exact q1 b hb, fun j hj => ?_⟩, ?_⟩
      · rw [z_up_e]
        by_cases e : j = i
        · rw [if_pos e, e]
        · rw [if_neg e]; exact q2 j (by omega)
      · simp (disch := omega) only [f_Mo_houses_L2, hi, z_Mr hS' hP', z_Mw hS', or_true, true_or, or_false, false_or, z_b_T, z_b_F, Bool.false_eq_true, Classical.not_not, decide_eq_true_eq, z_sq, Option.bind_some, z_lits, z_n_add, z_n_mul, z_lt, z_le, z_eq, z_ne1, z_1ne, z_lt1, z_1lt, z_ltT, z_ltF, z_leT, z_leF, z_eqF, z_b_0, z_b_1, ↓reduceIte, eq_self, not_true_eq_false, not_false_eq_true, and_true, true_and, and_false, false_and, Nat.add_zero, Nat.zero_add])
    (by
      intro m Z ⟨q1, q2⟩
      refine ⟨Z, ?_, q1, q2⟩
      simp (disch := omega) only [f_Mo_houses_L2, Nat.lt_irrefl, or_true, true_or, or_false, false_or, z_b_T, z_b_F, Bool.false_eq_true, Classical.not_not, decide_eq_true_eq, z_sq, Option.bind_some, z_lits, z_n_add, z_n_mul, z_lt, z_le, z_eq, z_ne1, z_1ne, z_lt1, z_1lt, z_ltT, z_ltF, z_leT, z_leF, z_eqF, z_b_0, z_b_1, ↓reduceIte, eq_self, not_true_eq_false, not_false_eq_true, and_true, true_and, and_false, false_and, Nat.add_zero, Nat.zero_add])
    (x := Y) ⟨fun _ _ => rfl, fun j hj => absurd hj (Nat.not_lt_zero _)⟩
theorem h_cg100 {Z : z_MI} (c : z_cg I J Y JY) (h : ∀ b, b ≠ 100 → Z b = Y b) : z_cg I J Z JY := by
  refine c.trans ⟨fun a ha => (h a (fun e => by subst e; cases ha)).symm, ?_, ?_, fun _ _ => rfl⟩
  · rw [h 83 (by decide)]
  · rw [h 83 (by decide)]
set_option maxRecDepth 100000 in
set_option maxHeartbeats 4000000 in
theorem M_ho52 (B : z_B S I J P K n.1) (hS' : z_St S') (hP' : z_Pt P') (c : z_cg I J Y JY) {s t : Nat} (hs : s < 24) (ht : t < 24) (hth : z_th I s = true) : f_Mo_houses_L52 83 (z_n s) (z_n t) q_FU (z_n 0) (z_n 0) (z_h S' Y JY P' n') = some (z_n (h_nj I J s t), z_h S' Y JY P' n') := by
  have l12 : z_ln I s ≤ 12 := (B.qD hs).1
  have t12 : z_ln I t ≤ 12 := (B.qD ht).1
  have hL := (z_lL_c c B.qL s (by omega)).1
  rw [z_ln_c c] at hL
  have hob := fun I J => z_ob (I := I) (J := J) (P := P') (n := n') (s_83 hS')
  have h := z_run (fun m i => f_Mo_houses_L52 83 (z_n s) (z_n t) m (z_n (z_sum i fun a => if h_on I J s t a < z_ln I t then 1 else 0)) (z_n i) (z_h S' Y JY P' n')) (z_ln I s) (r := some (z_n (h_nj I J s t), z_h S' Y JY P' n')) (by omega)
    (by
      intro m i hi
      have o := M_one (n' := n') B hS' hP' c hs ht hth hi
      rw [z_sum_s]
      by_cases hj : h_on I J s t i < z_ln I t
      · rw [if_pos hj] at o
        rw [if_pos hj]
        generalize h_on I J s t i = j at *
        simp (disch := omega) only [f_Mo_houses_L52, z_Mr hS' hP', hL, hi, hob, o, Nat.not_lt_zero, or_true, true_or, or_false, false_or, z_b_T, z_b_F, Bool.false_eq_true, Classical.not_not, decide_eq_true_eq, z_sq, Option.bind_some, z_lits, z_n_add, z_n_mul, z_lt, z_le, z_eq, z_ne1, z_1ne, z_lt1, z_1lt, z_ltT, z_ltF, z_leT, z_leF, z_eqF, z_b_0, z_b_1, ↓reduceIte, eq_self, not_true_eq_false, not_false_eq_true, and_true, true_and, and_false, false_and, Nat.add_zero, Nat.zero_add]
      · rw [if_neg hj] at o
        rw [if_neg hj]
        have e : (-z_n 1 < z_n 0) = True := z_1lt (by omega)
        simp (disch := omega) only [f_Mo_houses_L52, z_Mr hS' hP', hL, hi, hob, o, e, or_true, true_or, or_false, false_or, z_b_T, z_b_F, Bool.false_eq_true, Classical.not_not, decide_eq_true_eq, z_sq, Option.bind_some, z_lits, z_n_add, z_n_mul, z_lt, z_le, z_eq, z_ne1, z_1ne, z_lt1, z_1lt, z_ltT, z_ltF, z_leT, z_leF, z_eqF, z_b_0, z_b_1, ↓reduceIte, eq_self, not_true_eq_false, not_false_eq_true, and_true, true_and, and_false, false_and, Nat.add_zero, Nat.zero_add])
    (by
      intro m
      simp (disch := omega) only [f_Mo_houses_L52, z_Mr hS' hP', hL, Nat.lt_irrefl, or_true, true_or, or_false, false_or, z_b_T, z_b_F, Bool.false_eq_true, Classical.not_not, decide_eq_true_eq, z_sq, Option.bind_some, z_lits, z_n_add, z_n_mul, z_lt, z_le, z_eq, z_ne1, z_1ne, z_lt1, z_1lt, z_ltT, z_ltF, z_leT, z_leF, z_eqF, z_b_0, z_b_1, ↓reduceIte, eq_self, not_true_eq_false, not_false_eq_true, and_true, true_and, and_false, false_and, Nat.add_zero, Nat.zero_add]
      rfl)
  exact h
set_option maxRecDepth 100000 in
set_option maxHeartbeats 4000000 in
theorem M_ho148 (hS' : z_St S') (hP' : z_Pt P') {r : Nat → Nat} {x y : Nat} {v w : Int32} (hx : x < 24) (hr : ∀ j, j < 24 → r j < 24 ∧ Y 100 j = z_n (r j)) : ∃ Z, f_Mo_houses_L148 83 v w (z_n x) (z_n y) q_FU (z_n 0) (z_h S' Y JY P' n') = some ((), z_h S' Z JY P' n') ∧ (∀ b, b ≠ 100 → Z b = Y b) ∧ ∀ j, j < 24 → Z 100 j = z_n (h_mg r x y j) := by
  exact z_runI (fun m i (Z : z_MI) => f_Mo_houses_L148 83 v w (z_n x) (z_n y) m (z_n i) (z_h S' Z JY P' n')) 24
    (fun i Z => (∀ b, b ≠ 100 → Z b = Y b) ∧ ∀ j, j < 24 → Z 100 j = z_n (if j < i then h_mg r x y j else r j))
    (fun q => ∃ Z, q = some ((), z_h S' Z JY P' n') ∧ (∀ b, b ≠ 100 → Z b = Y b) ∧ ∀ j, j < 24 → Z 100 j = z_n (h_mg r x y j)) (by omega)
    (by
      intro m i Z hi ⟨q1, q2⟩
      have e := q2 i hi
      rw [if_neg (Nat.lt_irrefl _)] at e
      have ri := (hr i hi).1
      refine ⟨z_up Z 100 i (z_n (h_mg r x y i)), ⟨fun b hb => by rw [z_up_r hb]; exact q1 b hb, fun j hj => ?_⟩, ?_⟩
      · rw [z_up_e]
        by_cases d : j = i
        · rw [if_pos d, if_pos (by omega), d]
        · rw [if_neg d, q2 j hj]
          by_cases d2 : j < i
          · rw [if_pos d2, if_pos (by omega)]
          · rw [if_neg d2, if_neg (by omega)]
      · unfold h_mg
        by_cases c : r i = x
        · rw [if_pos c]
          simp (disch := omega) only [f_Mo_houses_L148, hi, z_Mr hS' hP', z_Mw hS', e, c, or_true, true_or, or_false, false_or, z_b_T, z_b_F, Bool.false_eq_true, Classical.not_not, decide_eq_true_eq, z_sq, Option.bind_some, z_lits, z_n_add, z_n_mul, z_lt, z_le, z_eq, z_ne1, z_1ne, z_lt1, z_1lt, z_ltT, z_ltF, z_leT, z_leF, z_eqF, z_b_0, z_b_1, ↓reduceIte, eq_self, not_true_eq_false, not_false_eq_true, and_true, true_and, and_false, false_and, Nat.add_zero, Nat.zero_add]
        · rw [if_neg c]
          simp (disch := omega) only [f_Mo_houses_L148, hi, z_Mr hS' hP', z_Mw hS', e, c, or_true, true_or, or_false, false_or, z_b_T, z_b_F, Bool.false_eq_true, Classical.not_not, decide_eq_true_eq, z_sq, Option.bind_some, z_lits, z_n_add, z_n_mul, z_lt, z_le, z_eq, z_ne1, z_1ne, z_lt1, z_1lt, z_ltT, z_ltF, z_leT, z_leF, z_eqF, z_b_0, z_b_1, ↓reduceIte, eq_self, not_true_eq_false, not_false_eq_true, and_true, true_and, and_false, false_and, Nat.add_zero, Nat.zero_add])
    (by
      intro m Z ⟨q1, q2⟩
      refine ⟨Z, ?_, q1, fun j hj => by rw [q2 j hj, if_pos hj]⟩
      simp (disch := omega) only [f_Mo_houses_L148, Nat.lt_irrefl, or_true, true_or, or_false, false_or, z_b_T, z_b_F, Bool.false_eq_true, Classical.not_not, decide_eq_true_eq, z_sq, Option.bind_some, z_lits, z_n_add, z_n_mul, z_lt, z_le, z_eq, z_ne1, z_1ne, z_lt1, z_1lt, z_ltT, z_ltF, z_leT, z_leF, z_eqF, z_b_0, z_b_1, ↓reduceIte, eq_self, not_true_eq_false, not_false_eq_true, and_true, true_and, and_false, false_and, Nat.add_zero, Nat.zero_add])
    (x := Y) ⟨fun _ _ => rfl, fun j hj => by rw [if_neg (Nat.not_lt_zero _)]; exact (hr j hj).2⟩
theorem h_ms_lt {nj : Nat → Nat → Nat} {r : Nat → Nat} {s t : Nat} (hr : ∀ j, j < 24 → r j < 24) (hs : s < 24) (ht : t < 24) (j : Nat) (hj : j < 24) : h_ms nj r s t j < 24 := by
  have h1 := hr s hs
  have h2 := hr t ht
  have key : ∀ x y, y < 24 → h_mg r x y j < 24 := by
    intro x y hy
    unfold h_mg
    split
    · exact hy
    · exact hr j hj
  unfold h_ms
  split
  · exact hr j hj
  · exact key _ _ (by split <;> omega)
theorem h_inm_lt {nj : Nat → Nat → Nat} {r : Nat → Nat} {s : Nat} (hr : ∀ j, j < 24 → r j < 24) (hs : s < 24) : ∀ k, s + k < 24 → ∀ j, j < 24 → h_in (h_ms nj) r s k j < 24
  | 0, _, j, hj => hr j hj
  | k + 1, hk, j, hj => h_ms_lt (fun i hi => h_inm_lt hr hs k (by omega) i hi) hs (by omega) j hj
theorem h_oum_lt {nj : Nat → Nat → Nat} : ∀ s, s ≤ 24 → ∀ j, j < 24 → h_ou (h_ms nj) s j < 24
  | 0, _, j, hj => hj
  | s + 1, hs, j, hj => h_inm_lt (fun i hi => h_oum_lt s (by omega) i hi) (by omega) (23 - s) (by omega) j hj
set_option maxRecDepth 100000 in
set_option maxHeartbeats 4000000 in
theorem M_ho33 (B : z_B S I J P K n.1) (hS' : z_St S') (hP' : z_Pt P') (c : z_cg I J Y JY) {r : Nat → Nat} {s : Nat} (hs : s < 24) (hr : ∀ j, j < 24 → r j < 24 ∧ Y 100 j = z_n (r j)) : ∃ Z, f_Mo_houses_L33 83 (z_n s) q_FU (z_n (s + 1)) (z_h S' Y JY P' n') = some ((), z_h S' Z JY P' n') ∧ (∀ b, b ≠ 100 → Z b = Y b) ∧ ∀ j, j < 24 → Z 100 j = z_n (h_in (h_ms (h_nj I J)) r s (23 - s) j) := by
  have hob := fun I J => z_ob (I := I) (J := J) (P := P') (n := n') (s_83 hS')
  by_cases hth : z_th I s = true
  · exact z_loopI (fun m t (Z : z_MI) => f_Mo_houses_L33 83 (z_n s) m (z_n t) (z_h S' Z JY P' n')) 24
      (fun t Z => s < t ∧ (∀ b, b ≠ 100 → Z b = Y b) ∧ ∀ j, j < 24 → Z 100 j = z_n (h_in (h_ms (h_nj I J)) r s (t - (s + 1)) j))
      (fun q => ∃ Z, q = some ((), z_h S' Z JY P' n') ∧ (∀ b, b ≠ 100 → Z b = Y b) ∧ ∀ j, j < 24 → Z 100 j = z_n (h_in (h_ms (h_nj I J)) r s (23 - s) j))
      (by
        intro m t Z ht ⟨q0, q1, q2⟩
        have cZ := h_cg100 c q1
        have th := M_isThere (n := n') (I := Z) (J := JY) hS' hP' hs
        rw [z_th_c cZ, z_b_t hth] at th
        have k52 := M_ho52 (n' := n') B hS' hP' cZ hs ht hth
        have nle := z_sum_le (fun a => if h_on I J s t a < z_ln I t then 1 else 0) 1 (z_ln I s) (fun a _ => by split <;> omega)
        have l12 : z_ln I s ≤ 12 := (B.qD hs).1
        change h_nj I J s t ≤ _ at nle
        have ek : t + 1 - (s + 1) = t - (s + 1) + 1 := by omega
        have et : s + 1 + (t - (s + 1)) = t := by omega
        have rl := fun j hj => h_inm_lt (nj := h_nj I J) (r := r) (s := s) (fun i hi => (hr i hi).1) hs (t - (s + 1)) (by omega) j hj
        rw [ek]
        simp only [h_in, et]
        generalize h_in (h_ms (h_nj I J)) r s (t - (s + 1)) = Q at *
        have r1 := rl s hs
        have r2 := rl t ht
        have e1 := q2 s hs
        have e2 := q2 t ht
        unfold h_ms
        by_cases c1 : h_nj I J s t < 2
        · refine ⟨Z, ⟨by omega, q1, fun j hj => by rw [if_pos (Or.inl c1)]; exact q2 j hj⟩, ?_⟩
          simp (disch := omega) only [f_Mo_houses_L33, ht, hob, th, k52, c1, or_true, true_or, or_false, false_or, z_b_T, z_b_F, Bool.false_eq_true, Classical.not_not, decide_eq_true_eq, z_sq, Option.bind_some, z_lits, z_n_add, z_n_mul, z_lt, z_le, z_eq, z_ne1, z_1ne, z_lt1, z_1lt, z_ltT, z_ltF, z_leT, z_leF, z_eqF, z_b_0, z_b_1, ↓reduceIte, eq_self, not_true_eq_false, not_false_eq_true, and_true, true_and, and_false, false_and, Nat.add_zero, Nat.zero_add]
        · by_cases c2 : Q s = Q t
          · refine ⟨Z, ⟨by omega, q1, fun j hj => by rw [if_pos (Or.inr c2)]; exact q2 j hj⟩, ?_⟩
            simp (disch := omega) only [f_Mo_houses_L33, ht, hob, th, k52, c1, z_Mr hS' hP', e1, e2, c2, or_true, true_or, or_false, false_or, z_b_T, z_b_F, Bool.false_eq_true, Classical.not_not, decide_eq_true_eq, z_sq, Option.bind_some, z_lits, z_n_add, z_n_mul, z_lt, z_le, z_eq, z_ne1, z_1ne, z_lt1, z_1lt, z_ltT, z_ltF, z_leT, z_leF, z_eqF, z_b_0, z_b_1, ↓reduceIte, eq_self, not_true_eq_false, not_false_eq_true, and_true, true_and, and_false, false_and, Nat.add_zero, Nat.zero_add]
          · have key : ∀ x y, x < 24 → x = (if Q s < Q t then Q t else Q s) → y = (if Q t < Q s then Q t else Q s) → ∃ Z', (s < t + 1 ∧ (∀ b, b ≠ 100 → Z' b = Y b) ∧ ∀ j, j < 24 → Z' 100 j = z_n ((if h_nj I J s t < 2 ∨ Q s = Q t then Q else h_mg Q (if Q s < Q t then Q t else Q s) (if Q t < Q s then Q t else Q s)) j)) ∧ f_Mo_houses_L148 83 (z_n s) (z_n t) (z_n x) (z_n y) q_FU (z_n 0) (z_h S' Z JY P' n') = some ((), z_h S' Z' JY P' n') := by
              intro x y hx ex ey
              obtain ⟨W, b1, b2, b3⟩ := M_ho148 (Y := Z) (JY := JY) (n' := n') hS' hP' (r := Q) (x := x) (y := y) (v := z_n s) (w := z_n t) hx (fun j hj => ⟨rl j hj, q2 j hj⟩)
              refine ⟨W, ⟨by omega, fun b hb => (b2 b hb).trans (q1 b hb), fun j hj => by rw [if_neg (fun z => z.elim c1 c2), ← ex, ← ey]; exact b3 j hj⟩, b1⟩
            by_cases c3 : Q s < Q t
            · obtain ⟨W, w1, w2⟩ := key (Q t) (Q s) r2 (by rw [if_pos c3]) (by rw [if_neg (by omega)])
              refine ⟨W, w1, ?_⟩
              have c4 : ¬ Q t < Q s := by omega
              simp (disch := omega) only [f_Mo_houses_L33, ht, hob, th, k52, c1, z_Mr hS' hP', e1, e2, c2, c3, c4, w2, or_true, true_or, or_false, false_or, z_b_T, z_b_F, Bool.false_eq_true, Classical.not_not, decide_eq_true_eq, z_sq, Option.bind_some, z_lits, z_n_add, z_n_mul, z_lt, z_le, z_eq, z_ne1, z_1ne, z_lt1, z_1lt, z_ltT, z_ltF, z_leT, z_leF, z_eqF, z_b_0, z_b_1, ↓reduceIte, eq_self, not_true_eq_false, not_false_eq_true, and_true, true_and, and_false, false_and, Nat.add_zero, Nat.zero_add]
            · obtain ⟨W, w1, w2⟩ := key (Q s) (Q t) r1 (by rw [if_neg c3]) (by rw [if_pos (by omega)])
              refine ⟨W, w1, ?_⟩
              have c4 : Q t < Q s := by omega
              simp (disch := omega) only [f_Mo_houses_L33, ht, hob, th, k52, c1, z_Mr hS' hP', e1, e2, c2, c3, c4, w2, or_true, true_or, or_false, false_or, z_b_T, z_b_F, Bool.false_eq_true, Classical.not_not, decide_eq_true_eq, z_sq, Option.bind_some, z_lits, z_n_add, z_n_mul, z_lt, z_le, z_eq, z_ne1, z_1ne, z_lt1, z_1lt, z_ltT, z_ltF, z_leT, z_leF, z_eqF, z_b_0, z_b_1, ↓reduceIte, eq_self, not_true_eq_false, not_false_eq_true, and_true, true_and, and_false, false_and, Nat.add_zero, Nat.zero_add])
      (by
        intro m Z ⟨q0, q1, q2⟩
        refine ⟨Z, ?_, q1, fun j hj => ?_⟩
        · simp (disch := omega) only [f_Mo_houses_L33, Nat.lt_irrefl, or_true, true_or, or_false, false_or, z_b_T, z_b_F, Bool.false_eq_true, Classical.not_not, decide_eq_true_eq, z_sq, Option.bind_some, z_lits, z_n_add, z_n_mul, z_lt, z_le, z_eq, z_ne1, z_1ne, z_lt1, z_1lt, z_ltT, z_ltF, z_leT, z_leF, z_eqF, z_b_0, z_b_1, ↓reduceIte, eq_self, not_true_eq_false, not_false_eq_true, and_true, true_and, and_false, false_and, Nat.add_zero, Nat.zero_add]
        · rw [q2 j hj, show 24 - (s + 1) = 23 - s by omega])
      q_FU (s + 1) Y (by omega) (by rw [z_FU]; omega)
      ⟨by omega, fun _ _ => rfl, fun j hj => by rw [Nat.sub_self]; exact (hr j hj).2⟩
  · have id0 : h_in (h_ms (h_nj I J)) r s (23 - s) = r := h_in_id (fun q t => by
      unfold h_ms
      rw [if_pos (Or.inl ?_)]
      by_cases e : h_nj I J s t < 2
      · exact e
      · exact absurd (h_nj_th e).1 hth) _
    have th := M_isThere (n := n') (I := Y) (J := JY) hS' hP' hs
    rw [z_th_c c, z_b_f hth] at th
    refine ⟨Y, ?_, fun _ _ => rfl, fun j hj => by rw [id0]; exact (hr j hj).2⟩
    rw [z_FU]
    show f_Mo_houses_L33 83 (z_n s) (999999 + 1) (z_n (s + 1)) (z_h S' Y JY P' n') = _
    generalize 999999 = m
    rw [f_Mo_houses_L33]
    by_cases e : s + 1 < 24
    · simp (disch := omega) only [e, hob, th, or_true, true_or, or_false, false_or, z_b_T, z_b_F, Bool.false_eq_true, Classical.not_not, decide_eq_true_eq, z_sq, Option.bind_some, z_lits, z_n_add, z_n_mul, z_lt, z_le, z_eq, z_ne1, z_1ne, z_lt1, z_1lt, z_ltT, z_ltF, z_leT, z_leF, z_eqF, z_b_0, z_b_1, ↓reduceIte, eq_self, not_true_eq_false, not_false_eq_true, and_true, true_and, and_false, false_and, Nat.add_zero, Nat.zero_add]
    · simp (disch := omega) only [e, or_true, true_or, or_false, false_or, z_b_T, z_b_F, Bool.false_eq_true, Classical.not_not, decide_eq_true_eq, z_sq, Option.bind_some, z_lits, z_n_add, z_n_mul, z_lt, z_le, z_eq, z_ne1, z_1ne, z_lt1, z_1lt, z_ltT, z_ltF, z_leT, z_leF, z_eqF, z_b_0, z_b_1, ↓reduceIte, eq_self, not_true_eq_false, not_false_eq_true, and_true, true_and, and_false, false_and, Nat.add_zero, Nat.zero_add]
set_option maxRecDepth 100000 in
set_option maxHeartbeats 4000000 in
theorem M_hous (B : z_B S I J P K n.1) (hS' : z_St S') (hP' : z_Pt P') (c : z_cg I J Y JY) : ∃ Z, f_Mo_houses 83 (z_h S' Y JY P' n') = some ((), z_h S' Z JY P' n') ∧ (∀ b, b ≠ 100 → Z b = Y b) ∧ ∀ j, j < 24 → Z 100 j = z_n (h_rm I J 24 j) := by
  obtain ⟨A, a1, a2, a3⟩ := M_ho2 (Y := Y) (JY := JY) (n' := n') hS' hP'
  obtain ⟨Z, b1, b2, b3⟩ : ∃ Z, f_Mo_houses_L23 83 q_FU (z_n 0) (z_h S' A JY P' n') = some ((), z_h S' Z JY P' n') ∧ (∀ b, b ≠ 100 → Z b = Y b) ∧ ∀ j, j < 24 → Z 100 j = z_n (h_rm I J 24 j) :=
    z_runI (fun m s (Z : z_MI) => f_Mo_houses_L23 83 m (z_n s) (z_h S' Z JY P' n')) 24
    (fun s Z => (∀ b, b ≠ 100 → Z b = Y b) ∧ ∀ j, j < 24 → Z 100 j = z_n (h_rm I J s j))
    (fun q => ∃ Z, q = some ((), z_h S' Z JY P' n') ∧ (∀ b, b ≠ 100 → Z b = Y b) ∧ ∀ j, j < 24 → Z 100 j = z_n (h_rm I J 24 j)) (by omega)
    (by
      intro m s Z hs ⟨q1, q2⟩
      obtain ⟨W, d1, d2, d3⟩ := M_ho33 (n' := n') B hS' hP' (h_cg100 c q1) (r := h_rm I J s) hs (fun j hj => ⟨h_oum_lt s (by omega) j hj, q2 j hj⟩)
      refine ⟨W, ⟨fun b hb => (d2 b hb).trans (q1 b hb), d3⟩, ?_⟩
      simp (disch := omega) only [f_Mo_houses_L23, hs, d1, or_true, true_or, or_false, false_or, z_b_T, z_b_F, Bool.false_eq_true, Classical.not_not, decide_eq_true_eq, z_sq, Option.bind_some, z_lits, z_n_add, z_n_mul, z_lt, z_le, z_eq, z_ne1, z_1ne, z_lt1, z_1lt, z_ltT, z_ltF, z_leT, z_leF, z_eqF, z_b_0, z_b_1, ↓reduceIte, eq_self, not_true_eq_false, not_false_eq_true, and_true, true_and, and_false, false_and, Nat.add_zero, Nat.zero_add])
    (by
      intro m Z ⟨q1, q2⟩
      refine ⟨Z, ?_, q1, q2⟩
      simp (disch := omega) only [f_Mo_houses_L23, Nat.lt_irrefl, or_true, true_or, or_false, false_or, z_b_T, z_b_F, Bool.false_eq_true, Classical.not_not, decide_eq_true_eq, z_sq, Option.bind_some, z_lits, z_n_add, z_n_mul, z_lt, z_le, z_eq, z_ne1, z_1ne, z_lt1, z_1lt, z_ltT, z_ltF, z_leT, z_leF, z_eqF, z_b_0, z_b_1, ↓reduceIte, eq_self, not_true_eq_false, not_false_eq_true, and_true, true_and, and_false, false_and, Nat.add_zero, Nat.zero_add])
    (x := A) ⟨a2, a3⟩
  refine ⟨Z, ?_, b2, b3⟩
  simp (disch := omega) only [f_Mo_houses, a1, b1, or_true, true_or, or_false, false_or, z_b_T, z_b_F, Bool.false_eq_true, Classical.not_not, decide_eq_true_eq, z_sq, Option.bind_some, z_lits, z_n_add, z_n_mul, z_lt, z_le, z_eq, z_ne1, z_1ne, z_lt1, z_1lt, z_ltT, z_ltF, z_leT, z_leF, z_eqF, z_b_0, z_b_1, ↓reduceIte, eq_self, not_true_eq_false, not_false_eq_true, and_true, true_and, and_false, false_and, Nat.add_zero, Nat.zero_add]
end
