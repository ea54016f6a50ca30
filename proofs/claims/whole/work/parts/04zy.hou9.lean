/-! LEFT OUT: the reference. -/
section
variable {S S' : z_SH} {I Y : z_MI} {J JY : z_MJ} {P P' : z_MP} {K : Nat → Bool} {n n' : Nat × Nat}
def h_le (I : z_MI) (J : z_MJ) (s t i : Nat) : Nat := if ¬ h_kl I J t i 24 < h_kf I J t i 24 ∧ h_kf I J t i 24 < h_yr I s ∧ d_hp (z_Ds I J s) (z_Ds I J t) i = true ∧ ¬ h_on I J t s i < z_ln I s then (if h_kl I J t i 24 < h_yr I s then 2 else 1) else 0
theorem h_lf_le (I : z_MI) (J : z_MJ) (s t w : Nat) {x : Nat} (hx : x < 2) (i : Nat) : h_lf I J s t w x i = if I 91 (12 * t + i) = z_n w ∧ h_le I J s t i = 2 - x then 1 else 0 := by
  unfold h_lf h_le
  by_cases g : ¬ h_kl I J t i 24 < h_kf I J t i 24 ∧ h_kf I J t i 24 < h_yr I s ∧ d_hp (z_Ds I J s) (z_Ds I J t) i = true ∧ ¬ h_on I J t s i < z_ln I s
  · rw [if_pos g]
    by_cases e : I 91 (12 * t + i) = z_n w
    · by_cases k : h_kl I J t i 24 < h_yr I s
      · simp only [if_pos k]
        by_cases e2 : x = 0
        · rw [if_pos ⟨g, e, e2⟩, if_pos ⟨e, by omega⟩]
        · rw [if_neg (fun q => e2 q.2.2), if_neg (fun q => e2 (by have := q.2; omega))]
      · simp only [if_neg k]
        by_cases e2 : x = 1
        · rw [if_pos ⟨g, e, e2⟩, if_pos ⟨e, by omega⟩]
        · rw [if_neg (fun q => e2 q.2.2), if_neg (fun q => e2 (by have := q.2; omega))]
    · rw [if_neg (fun q => e q.2.1), if_neg (fun q => e q.1)]
  · rw [if_neg g, if_neg (fun q => g q.1), if_neg (fun q => by have := q.2; omega)]
theorem h_le_le (I : z_MI) (J : z_MJ) (s t i : Nat) : h_le I J s t i ≤ 2 := by
  unfold h_le
  split
  · split <;> omega
  · omega
set_option maxRecDepth 100000 in
set_option maxHeartbeats 4000000 in
theorem M_leftOf (B : z_B S I J P K n.1) (hS' : z_St S') (hP' : z_Pt P') (c : z_cg I J Y JY) {s t i : Nat} (hs : s < 24) (ht : t < 24) (hth : z_th I t = true) (hi : i < z_ln I t) : ∃ Z, f_Mo_leftOf 83 (z_n s) (z_n t) (z_n i) (z_h S' Y JY P' n') = some (z_n (h_le I J s t i), z_h S' Z JY P' n') ∧ z_mf Y JY Z JY ∧ (∀ b, b ≠ 83 → Z b = Y b) ∧ Z 83 0 = Y 83 0 := by
  have hob := fun I J => z_ob (I := I) (J := J) (P := P') (n := n') (s_83 hS')
  have hp := M_hasP (n' := n') B hS' hP' c hs ht hi
  have o := M_one (n' := n') B hS' hP' c ht hs hth hi
  have s12 : z_ln I s ≤ 12 := (B.qD hs).1
  obtain ⟨Z, a1, a2, a3, a0, a4, a5⟩ := M_knows (n' := n') B hS' hP' c ht hth hi
  have e88 : Z 88 s = I 88 s := by rw [a3 88 (by decide)]; exact c.i 88 rfl s
  unfold h_le
  by_cases c3 : d_hp (z_Ds I J s) (z_Ds I J t) i = true
  rotate_left
  · rw [z_b_f c3] at hp
    refine ⟨Y, ?_, z_mf.refl _ _, fun _ _ => rfl, rfl⟩
    rw [if_neg (fun q => c3 q.2.2.1)]
    simp (disch := omega) only [f_Mo_leftOf, hob, hp, or_true, true_or, or_false, false_or, z_b_T, z_b_F, Bool.false_eq_true, Classical.not_not, decide_eq_true_eq, z_sq, Option.bind_some, z_lits, z_n_add, z_n_mul, z_lt, z_le, z_eq, z_ne1, z_1ne, z_lt1, z_1lt, z_ltT, z_ltF, z_leT, z_leF, z_eqF, z_b_0, z_b_1, ↓reduceIte, eq_self, not_true_eq_false, not_false_eq_true, and_true, true_and, and_false, false_and, Nat.add_zero, Nat.zero_add]
  rw [z_b_t c3] at hp
  by_cases c4 : h_on I J t s i < z_ln I s
  · rw [if_pos c4] at o
    refine ⟨Y, ?_, z_mf.refl _ _, fun _ _ => rfl, rfl⟩
    rw [if_neg (fun q => q.2.2.2 c4)]
    simp (disch := omega) only [f_Mo_leftOf, hob, hp, o, Nat.not_lt_zero, or_true, true_or, or_false, false_or, z_b_T, z_b_F, Bool.false_eq_true, Classical.not_not, decide_eq_true_eq, z_sq, Option.bind_some, z_lits, z_n_add, z_n_mul, z_lt, z_le, z_eq, z_ne1, z_1ne, z_lt1, z_1lt, z_ltT, z_ltF, z_leT, z_leF, z_eqF, z_b_0, z_b_1, ↓reduceIte, eq_self, not_true_eq_false, not_false_eq_true, and_true, true_and, and_false, false_and, Nat.add_zero, Nat.zero_add]
  rw [if_neg c4] at o
  have em : (-z_n 1 < z_n 0) = True := z_1lt (by omega)
  have ey : z_n 14 * I 88 s = h_yr I s := rfl
  refine ⟨Z, ?_, a2, a3, a0⟩
  generalize h_kl I J t i 24 = kl at *
  generalize h_kf I J t i 24 = kf at *
  generalize h_yr I s = yr at *
  rcases z_tf (kl < kf) with c1 | c1 <;> rcases z_tf (kf < yr) with c2 | c2 <;> rcases z_tf (kl < yr) with c5 | c5 <;> simp (disch := omega) only [f_Mo_leftOf, hob, hp, o, em, a1, z_Mr hS' hP', a4, a5, e88, ey, c1, c2, c3, c4, c5, or_true, true_or, or_false, false_or, z_b_T, z_b_F, Bool.false_eq_true, Classical.not_not, decide_eq_true_eq, z_sq, Option.bind_some, z_lits, z_n_add, z_n_mul, z_lt, z_le, z_eq, z_ne1, z_1ne, z_lt1, z_1lt, z_ltT, z_ltF, z_leT, z_leF, z_eqF, z_b_0, z_b_1, ↓reduceIte, eq_self, not_true_eq_false, not_false_eq_true, and_true, true_and, and_false, false_and, Nat.add_zero, Nat.zero_add]
set_option maxRecDepth 100000 in
set_option maxHeartbeats 4000000 in
theorem M_left66 (B : z_B S I J P K n.1) (hS' : z_St S') (hP' : z_Pt P') (c : z_cg I J Y JY) {s t w x N : Nat} (hs : s < 24) (ht : t < 24) (hth : z_th I t = true) (hw : w < 2) (hx : x < 2) : ∃ Z, f_Mo_leftIn_L66 83 (z_n s) (z_n w) (z_n (2 - x)) (z_n t) q_FU (z_n N) (z_n 0) (z_h S' Y JY P' n') = some (z_n (N + z_sum (z_ln I t) (h_lf I J s t w x)), z_h S' Z JY P' n') ∧ z_mf Y JY Z JY ∧ (∀ b, b ≠ 83 → Z b = Y b) ∧ Z 83 0 = Y 83 0 := by
  have t12 : z_ln I t ≤ 12 := (B.qD ht).1
  have hob := fun I J => z_ob (I := I) (J := J) (P := P') (n := n') (s_83 hS')
  have hL := (B.qL t (by omega)).1
  exact z_runI (fun m i (Z : z_MI) => f_Mo_leftIn_L66 83 (z_n s) (z_n w) (z_n (2 - x)) (z_n t) m (z_n (N + z_sum i (h_lf I J s t w x))) (z_n i) (z_h S' Z JY P' n')) (z_ln I t)
    (fun i Z => z_mf Y JY Z JY ∧ (∀ b, b ≠ 83 → Z b = Y b) ∧ Z 83 0 = Y 83 0)
    (fun q => ∃ Z, q = some (z_n (N + z_sum (z_ln I t) (h_lf I J s t w x)), z_h S' Z JY P' n') ∧ z_mf Y JY Z JY ∧ (∀ b, b ≠ 83 → Z b = Y b) ∧ Z 83 0 = Y 83 0) (by omega)
    (by
      intro m i Z hi ⟨q1, q2, q3⟩
      have cZ := c.trans q1.cg
      have hLZ : Z 90 t = z_n (z_ln I t) := by rw [cZ.i 90 rfl]; exact hL
      have sx : Z 91 (12 * t + i) = I 91 (12 * t + i) := cZ.i 91 rfl _
      obtain ⟨W, a1, a2, a3, a0⟩ := M_leftOf (n' := n') B hS' hP' cZ hs ht hth hi
      have le := h_le_le I J s t i
      rw [z_sum_s, h_lf_le I J s t w hx, ← Nat.add_assoc]
      rcases z_tf (I 91 (12 * t + i) = z_n w) with c1 | c1
      · refine ⟨W, ⟨q1.trans a2, fun b hb => (a3 b hb).trans (q2 b hb), a0.trans q3⟩, ?_⟩
        rcases z_tf (h_le I J s t i = 2 - x) with c2 | c2 <;> simp (disch := omega) only [f_Mo_leftIn_L66, z_Mr hS' hP', hLZ, hi, sx, c1, hob, a1, c2, or_true, true_or, or_false, false_or, z_b_T, z_b_F, Bool.false_eq_true, Classical.not_not, decide_eq_true_eq, z_sq, Option.bind_some, z_lits, z_n_add, z_n_mul, z_lt, z_le, z_eq, z_ne1, z_1ne, z_lt1, z_1lt, z_ltT, z_ltF, z_leT, z_leF, z_eqF, z_b_0, z_b_1, ↓reduceIte, eq_self, not_true_eq_false, not_false_eq_true, and_true, true_and, and_false, false_and, Nat.add_zero, Nat.zero_add]
      · refine ⟨Z, ⟨q1, q2, q3⟩, ?_⟩
        simp (disch := omega) only [f_Mo_leftIn_L66, z_Mr hS' hP', hLZ, hi, sx, c1, or_true, true_or, or_false, false_or, z_b_T, z_b_F, Bool.false_eq_true, Classical.not_not, decide_eq_true_eq, z_sq, Option.bind_some, z_lits, z_n_add, z_n_mul, z_lt, z_le, z_eq, z_ne1, z_1ne, z_lt1, z_1lt, z_ltT, z_ltF, z_leT, z_leF, z_eqF, z_b_0, z_b_1, ↓reduceIte, eq_self, not_true_eq_false, not_false_eq_true, and_true, true_and, and_false, false_and, Nat.add_zero, Nat.zero_add])
    (by
      intro m Z ⟨q1, q2, q3⟩
      have hLZ : Z 90 t = z_n (z_ln I t) := by rw [(c.trans q1.cg).i 90 rfl]; exact hL
      refine ⟨Z, ?_, q1, q2, q3⟩
      simp (disch := omega) only [f_Mo_leftIn_L66, z_Mr hS' hP', hLZ, Nat.lt_irrefl, or_true, true_or, or_false, false_or, z_b_T, z_b_F, Bool.false_eq_true, Classical.not_not, decide_eq_true_eq, z_sq, Option.bind_some, z_lits, z_n_add, z_n_mul, z_lt, z_le, z_eq, z_ne1, z_1ne, z_lt1, z_1lt, z_ltT, z_ltF, z_leT, z_leF, z_eqF, z_b_0, z_b_1, ↓reduceIte, eq_self, not_true_eq_false, not_false_eq_true, and_true, true_and, and_false, false_and, Nat.add_zero, Nat.zero_add])
    (x := Y) ⟨z_mf.refl _ _, fun _ _ => rfl, rfl⟩
set_option maxRecDepth 100000 in
set_option maxHeartbeats 4000000 in
theorem M_leftIn (B : z_B S I J P K n.1) (hS' : z_St S') (hP' : z_Pt P') (c : z_cg I J Y JY) (hr : ∀ j, j < 24 → Y 100 j = z_n (h_rm I J 24 j)) {s w x : Nat} (hs : s < 24) (hth : z_th I s = true) (hw : w < 2) (hx : x < 2) : ∃ Z, f_Mo_leftIn 83 (z_n s) (z_n w) (z_n (2 - x)) (z_h S' Y JY P' n') = some (z_n (z_sum 24 fun t => h_lt I J (h_rc I J 24) s t w x), z_h S' Z JY P' n') ∧ z_mf Y JY Z JY ∧ (∀ b, b ≠ 83 → Z b = Y b) ∧ Z 83 0 = Y 83 0 := by
  have hob := fun I J => z_ob (I := I) (J := J) (P := P') (n := n') (s_83 hS')
  have rl := fun j hj => ((h_RR I J).1.2 j hj).1
  change ∀ j, j < 24 → h_rm I J 24 j < 24 at rl
  have kk := (h_RR I J).2.1
  change ∀ i j, i < 24 → j < 24 → (h_rc I J 24 i = h_rc I J 24 j ↔ h_rm I J 24 i = h_rm I J 24 j) at kk
  obtain ⟨Z, b1, b2, b3, b4⟩ : ∃ Z, f_Mo_leftIn_L6 83 (z_n s) (z_n w) (z_n (2 - x)) q_FU (z_n 0) (z_n 0) (z_h S' Y JY P' n') = some (z_n (z_sum 24 fun t => h_lt I J (h_rc I J 24) s t w x), z_h S' Z JY P' n') ∧ z_mf Y JY Z JY ∧ (∀ b, b ≠ 83 → Z b = Y b) ∧ Z 83 0 = Y 83 0 :=
    z_runI (fun m t (Z : z_MI) => f_Mo_leftIn_L6 83 (z_n s) (z_n w) (z_n (2 - x)) m (z_n (z_sum t fun t => h_lt I J (h_rc I J 24) s t w x)) (z_n t) (z_h S' Z JY P' n')) 24
    (fun t Z => z_mf Y JY Z JY ∧ (∀ b, b ≠ 83 → Z b = Y b) ∧ Z 83 0 = Y 83 0)
    (fun q => ∃ Z, q = some (z_n (z_sum 24 fun t => h_lt I J (h_rc I J 24) s t w x), z_h S' Z JY P' n') ∧ z_mf Y JY Z JY ∧ (∀ b, b ≠ 83 → Z b = Y b) ∧ Z 83 0 = Y 83 0) (by omega)
    (by
      intro m t Z ht ⟨q1, q2, q3⟩
      have cZ := c.trans q1.cg
      have th := M_isThere (n := n') (I := Z) (J := JY) hS' hP' ht
      rw [z_th_c cZ] at th
      have e1 : Z 100 s = z_n (h_rm I J 24 s) := by rw [q2 100 (by decide)]; exact hr s hs
      have e2 : Z 100 t = z_n (h_rm I J 24 t) := by rw [q2 100 (by decide)]; exact hr t ht
      have e3 : Z 88 s = I 88 s := cZ.i 88 rfl s
      have e4 : Z 88 t = I 88 t := cZ.i 88 rfl t
      have k := kk s t hs ht
      have r1 := rl s hs
      have r2 := rl t ht
      rw [z_sum_s]
      generalize z_sum t (fun t => h_lt I J (h_rc I J 24) s t w x) = N at *
      have no : (¬ (h_rc I J 24 s = h_rc I J 24 t ∧ I 88 s < I 88 t ∧ z_th I s = true ∧ z_th I t = true)) → h_lt I J (h_rc I J 24) s t w x = 0 := fun g => if_neg g
      by_cases c0 : t = s
      · rw [no (fun g => by rw [c0] at g; exact Int32.lt_irrefl g.2.1)]
        refine ⟨Z, ⟨q1, q2, q3⟩, ?_⟩
        subst c0
        simp (disch := omega) only [f_Mo_leftIn_L6, ht, or_true, true_or, or_false, false_or, z_b_T, z_b_F, Bool.false_eq_true, Classical.not_not, decide_eq_true_eq, z_sq, Option.bind_some, z_lits, z_n_add, z_n_mul, z_lt, z_le, z_eq, z_ne1, z_1ne, z_lt1, z_1lt, z_ltT, z_ltF, z_leT, z_leF, z_eqF, z_b_0, z_b_1, ↓reduceIte, eq_self, not_true_eq_false, not_false_eq_true, and_true, true_and, and_false, false_and, Nat.add_zero, Nat.zero_add]
      by_cases c1 : z_th I t = true
      rotate_left
      · rw [no (fun g => c1 g.2.2.2)]
        rw [z_b_f c1] at th
        refine ⟨Z, ⟨q1, q2, q3⟩, ?_⟩
        simp (disch := omega) only [f_Mo_leftIn_L6, ht, c0, hob, th, or_true, true_or, or_false, false_or, z_b_T, z_b_F, Bool.false_eq_true, Classical.not_not, decide_eq_true_eq, z_sq, Option.bind_some, z_lits, z_n_add, z_n_mul, z_lt, z_le, z_eq, z_ne1, z_1ne, z_lt1, z_1lt, z_ltT, z_ltF, z_leT, z_leF, z_eqF, z_b_0, z_b_1, ↓reduceIte, eq_self, not_true_eq_false, not_false_eq_true, and_true, true_and, and_false, false_and, Nat.add_zero, Nat.zero_add]
      rw [z_b_t c1] at th
      by_cases c2 : h_rm I J 24 t = h_rm I J 24 s
      rotate_left
      · rw [no (fun g => c2 (k.mp g.1).symm)]
        refine ⟨Z, ⟨q1, q2, q3⟩, ?_⟩
        simp (disch := omega) only [f_Mo_leftIn_L6, ht, c0, hob, th, z_Mr hS' hP', e1, e2, c2, or_true, true_or, or_false, false_or, z_b_T, z_b_F, Bool.false_eq_true, Classical.not_not, decide_eq_true_eq, z_sq, Option.bind_some, z_lits, z_n_add, z_n_mul, z_lt, z_le, z_eq, z_ne1, z_1ne, z_lt1, z_1lt, z_ltT, z_ltF, z_leT, z_leF, z_eqF, z_b_0, z_b_1, ↓reduceIte, eq_self, not_true_eq_false, not_false_eq_true, and_true, true_and, and_false, false_and, Nat.add_zero, Nat.zero_add]
      by_cases c3 : I 88 s < I 88 t
      rotate_left
      · rw [no (fun g => c3 g.2.1)]
        have c3 := eq_false c3
        refine ⟨Z, ⟨q1, q2, q3⟩, ?_⟩
        simp (disch := omega) only [f_Mo_leftIn_L6, ht, c0, hob, th, z_Mr hS' hP', e1, e2, e3, e4, c2, c3, or_true, true_or, or_false, false_or, z_b_T, z_b_F, Bool.false_eq_true, Classical.not_not, decide_eq_true_eq, z_sq, Option.bind_some, z_lits, z_n_add, z_n_mul, z_lt, z_le, z_eq, z_ne1, z_1ne, z_lt1, z_1lt, z_ltT, z_ltF, z_leT, z_leF, z_eqF, z_b_0, z_b_1, ↓reduceIte, eq_self, not_true_eq_false, not_false_eq_true, and_true, true_and, and_false, false_and, Nat.add_zero, Nat.zero_add]
      · have e : h_lt I J (h_rc I J 24) s t w x = z_sum (z_ln I t) (h_lf I J s t w x) := if_pos ⟨k.mpr c2.symm, c3, hth, c1⟩
        have c3 := eq_true c3
        obtain ⟨W, a1, a2, a3, a0⟩ := M_left66 (n' := n') (N := N) B hS' hP' cZ hs ht c1 hw hx
        refine ⟨W, ⟨q1.trans a2, fun b hb => (a3 b hb).trans (q2 b hb), a0.trans q3⟩, ?_⟩
        simp (disch := omega) only [f_Mo_leftIn_L6, ht, c0, hob, th, z_Mr hS' hP', e1, e2, e3, e4, c2, c3, a1, e, or_true, true_or, or_false, false_or, z_b_T, z_b_F, Bool.false_eq_true, Classical.not_not, decide_eq_true_eq, z_sq, Option.bind_some, z_lits, z_n_add, z_n_mul, z_lt, z_le, z_eq, z_ne1, z_1ne, z_lt1, z_1lt, z_ltT, z_ltF, z_leT, z_leF, z_eqF, z_b_0, z_b_1, ↓reduceIte, eq_self, not_true_eq_false, not_false_eq_true, and_true, true_and, and_false, false_and, Nat.add_zero, Nat.zero_add])
    (by
      intro m Z ⟨q1, q2, q3⟩
      refine ⟨Z, ?_, q1, q2, q3⟩
      simp (disch := omega) only [f_Mo_leftIn_L6, Nat.lt_irrefl, or_true, true_or, or_false, false_or, z_b_T, z_b_F, Bool.false_eq_true, Classical.not_not, decide_eq_true_eq, z_sq, Option.bind_some, z_lits, z_n_add, z_n_mul, z_lt, z_le, z_eq, z_ne1, z_1ne, z_lt1, z_1lt, z_ltT, z_ltF, z_leT, z_leF, z_eqF, z_b_0, z_b_1, ↓reduceIte, eq_self, not_true_eq_false, not_false_eq_true, and_true, true_and, and_false, false_and, Nat.add_zero, Nat.zero_add])
    (x := Y) ⟨z_mf.refl _ _, fun _ _ => rfl, rfl⟩
  refine ⟨Z, ?_, b2, b3, b4⟩
  simp (disch := omega) only [f_Mo_leftIn, b1, or_true, true_or, or_false, false_or, z_b_T, z_b_F, Bool.false_eq_true, Classical.not_not, decide_eq_true_eq, z_sq, Option.bind_some, z_lits, z_n_add, z_n_mul, z_lt, z_le, z_eq, z_ne1, z_1ne, z_lt1, z_1lt, z_ltT, z_ltF, z_leT, z_leF, z_eqF, z_b_0, z_b_1, ↓reduceIte, eq_self, not_true_eq_false, not_false_eq_true, and_true, true_and, and_false, false_and, Nat.add_zero, Nat.zero_add]
/-- LEFT OUT of all -/
def h_la (I : z_MI) (J : z_MJ) (w x : Nat) (N : Nat) : Nat := z_sum N fun s => z_sum 24 fun t => h_lt I J (h_rc I J 24) s t w x
theorem h_mf100 {Z : z_MI} (h : ∀ b, b ≠ 100 → Z b = Y b) : z_mf Y JY Z JY := by
  refine ⟨fun a ha => ⟨h a ?_, rfl⟩, by rw [h 83 (by decide)], by rw [h 83 (by decide)]⟩
  intro e
  subst e
  rcases ha with q | q | q
  · omega
  · omega
  · cases q
set_option maxRecDepth 100000 in
set_option maxHeartbeats 4000000 in
theorem M_leftAll (B : z_B S I J P K n.1) (hS' : z_St S') (hP' : z_Pt P') (c : z_cg I J Y JY) {w x : Nat} (hw : w < 2) (hx : x < 2) : ∃ Z, f_Mo_leftAll 83 (z_n w) (z_n (2 - x)) (z_h S' Y JY P' n') = some (z_n (h_la I J w x 24), z_h S' Z JY P' n') ∧ z_mf Y JY Z JY ∧ Z 83 0 = Y 83 0 := by
  have hob := fun I J => z_ob (I := I) (J := J) (P := P') (n := n') (s_83 hS')
  obtain ⟨A, a1, a2, a3⟩ := M_hous (n' := n') B hS' hP' c
  obtain ⟨Z, b1, b2, b3, b4⟩ : ∃ Z, f_Mo_leftAll_L9 83 (z_n w) (z_n (2 - x)) q_FU (z_n 0) (z_n 0) (z_h S' A JY P' n') = some (z_n (h_la I J w x 24), z_h S' Z JY P' n') ∧ z_mf Y JY Z JY ∧ (∀ j, j < 24 → Z 100 j = z_n (h_rm I J 24 j)) ∧ Z 83 0 = Y 83 0 :=
    z_runI (fun m s (Z : z_MI) => f_Mo_leftAll_L9 83 (z_n w) (z_n (2 - x)) m (z_n (h_la I J w x s)) (z_n s) (z_h S' Z JY P' n')) 24
    (fun s Z => z_mf Y JY Z JY ∧ (∀ j, j < 24 → Z 100 j = z_n (h_rm I J 24 j)) ∧ Z 83 0 = Y 83 0)
    (fun q => ∃ Z, q = some (z_n (h_la I J w x 24), z_h S' Z JY P' n') ∧ z_mf Y JY Z JY ∧ (∀ j, j < 24 → Z 100 j = z_n (h_rm I J 24 j)) ∧ Z 83 0 = Y 83 0) (by omega)
    (by
      intro m s Z hs ⟨q1, q2, q3⟩
      have cZ := c.trans q1.cg
      have th := M_isThere (n := n') (I := Z) (J := JY) hS' hP' hs
      rw [z_th_c cZ] at th
      have es : h_la I J w x (s + 1) = h_la I J w x s + z_sum 24 fun t => h_lt I J (h_rc I J 24) s t w x := rfl
      rw [es]
      generalize h_la I J w x s = N at *
      by_cases c1 : z_th I s = true
      · rw [z_b_t c1] at th
        obtain ⟨W, d1, d2, d3, d4⟩ := M_leftIn (n' := n') B hS' hP' cZ q2 hs c1 hw hx
        refine ⟨W, ⟨q1.trans d2, fun j hj => by rw [d3 100 (by decide)]; exact q2 j hj, d4.trans q3⟩, ?_⟩
        simp (disch := omega) only [f_Mo_leftAll_L9, hs, hob, th, d1, or_true, true_or, or_false, false_or, z_b_T, z_b_F, Bool.false_eq_true, Classical.not_not, decide_eq_true_eq, z_sq, Option.bind_some, z_lits, z_n_add, z_n_mul, z_lt, z_le, z_eq, z_ne1, z_1ne, z_lt1, z_1lt, z_ltT, z_ltF, z_leT, z_leF, z_eqF, z_b_0, z_b_1, ↓reduceIte, eq_self, not_true_eq_false, not_false_eq_true, and_true, true_and, and_false, false_and, Nat.add_zero, Nat.zero_add]
      · rw [z_b_f c1] at th
        have e : (z_sum 24 fun t => h_lt I J (h_rc I J 24) s t w x) = 0 := by
          rw [z_sum_eq (f := fun t => h_lt I J (h_rc I J 24) s t w x) (g := fun _ => 0) (fun t _ => by unfold h_lt; exact if_neg (fun q => c1 q.2.2.1))]
          have := z_sum_le (fun _ => 0) 0 24 (fun _ _ => Nat.le_refl _)
          omega
        refine ⟨Z, ⟨q1, q2, q3⟩, ?_⟩
        rw [e]
        simp (disch := omega) only [f_Mo_leftAll_L9, hs, hob, th, or_true, true_or, or_false, false_or, z_b_T, z_b_F, Bool.false_eq_true, Classical.not_not, decide_eq_true_eq, z_sq, Option.bind_some, z_lits, z_n_add, z_n_mul, z_lt, z_le, z_eq, z_ne1, z_1ne, z_lt1, z_1lt, z_ltT, z_ltF, z_leT, z_leF, z_eqF, z_b_0, z_b_1, ↓reduceIte, eq_self, not_true_eq_false, not_false_eq_true, and_true, true_and, and_false, false_and, Nat.add_zero, Nat.zero_add])
    (by
      intro m Z ⟨q1, q2, q3⟩
      refine ⟨Z, ?_, q1, q2, q3⟩
      simp (disch := omega) only [f_Mo_leftAll_L9, Nat.lt_irrefl, or_true, true_or, or_false, false_or, z_b_T, z_b_F, Bool.false_eq_true, Classical.not_not, decide_eq_true_eq, z_sq, Option.bind_some, z_lits, z_n_add, z_n_mul, z_lt, z_le, z_eq, z_ne1, z_1ne, z_lt1, z_1lt, z_ltT, z_ltF, z_leT, z_leF, z_eqF, z_b_0, z_b_1, ↓reduceIte, eq_self, not_true_eq_false, not_false_eq_true, and_true, true_and, and_false, false_and, Nat.add_zero, Nat.zero_add])
    (x := A) ⟨h_mf100 a2, a3, by rw [a2 83 (by decide)]⟩
  refine ⟨Z, ?_, b2, b4⟩
  simp (disch := omega) only [f_Mo_leftAll, hob, a1, b1, or_true, true_or, or_false, false_or, z_b_T, z_b_F, Bool.false_eq_true, Classical.not_not, decide_eq_true_eq, z_sq, Option.bind_some, z_lits, z_n_add, z_n_mul, z_lt, z_le, z_eq, z_ne1, z_1ne, z_lt1, z_1lt, z_ltT, z_ltF, z_leT, z_leF, z_eqF, z_b_0, z_b_1, ↓reduceIte, eq_self, not_true_eq_false, not_false_eq_true, and_true, true_and, and_false, false_and, Nat.add_zero, Nat.zero_add]
end
