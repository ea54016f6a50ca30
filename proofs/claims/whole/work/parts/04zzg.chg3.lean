/-! TABLE, GAP, SHEET, FORGET: the pairs. -/
section
variable {S : z_SH} {I : z_MI} {J : z_MJ} {P : z_MP} {K : Nat → Bool} {n : Nat × Nat}
theorem h_cg_of {Y : z_MI} (e : ∀ a, 85 ≤ a → a ≤ 98 → a ≠ 89 → Y a = I a) : h_cg I J Y J := fun a ha => ⟨e a (by unfold h_hra at ha; simp only [Bool.or_eq_true, Bool.and_eq_true, decide_eq_true_eq] at ha; omega) (by unfold h_hra at ha; simp only [Bool.or_eq_true, Bool.and_eq_true, decide_eq_true_eq] at ha; omega) (by unfold h_hra at ha; simp only [Bool.or_eq_true, Bool.and_eq_true, decide_eq_true_eq] at ha; omega), rfl⟩
set_option maxRecDepth 100000 in
set_option maxHeartbeats 4000000 in
theorem X_table (H : Inv S I J P K n.1) (a b d : Int32) : z_call (f_Rs_table 8 a b d) (f_Mo_table 83 a b d) S I J P n := by
  have B := H.1
  have hS := B.qS
  have hP := B.qP
  rcases z_in a 3 (by omega) with ⟨t, ht, rfl⟩ | ha
  rotate_left
  · refine z_call.no (r := z_n 0) H ?_ ?_
    · simp (disch := omega) only [f_Rs_table, C_isTable_o ha, or_true, true_or, or_false, false_or, z_b_T, z_b_F, Bool.false_eq_true, Classical.not_not, decide_eq_true_eq, z_sq, Option.bind_some, z_lits, z_n_add, z_n_mul, z_lt, z_le, z_eq, z_ne1, z_1ne, z_lt1, z_1lt, z_ltT, z_ltF, z_leT, z_leF, z_eqF, z_b_0, z_b_1, ↓reduceIte, eq_self, not_true_eq_false, not_false_eq_true, and_true, true_and, and_false, false_and, Nat.add_zero, Nat.zero_add]
    · simp (disch := omega) only [f_Mo_table, M_thr hS, M_isTable_o ha, or_true, true_or, or_false, false_or, z_b_T, z_b_F, Bool.false_eq_true, Classical.not_not, decide_eq_true_eq, z_sq, Option.bind_some, z_lits, z_n_add, z_n_mul, z_lt, z_le, z_eq, z_ne1, z_1ne, z_lt1, z_1lt, z_ltT, z_ltF, z_leT, z_leF, z_eqF, z_b_0, z_b_1, ↓reduceIte, eq_self, not_true_eq_false, not_false_eq_true, and_true, true_and, and_false, false_and, Nat.add_zero, Nat.zero_add]
  rcases z_in b 16 (by omega) with ⟨k, hk, rfl⟩ | hb
  rotate_left
  · refine z_call.no (r := z_n 0) H ?_ ?_
    · simp (disch := omega) only [f_Rs_table, C_isTable, C_out hb, or_true, true_or, or_false, false_or, z_b_T, z_b_F, Bool.false_eq_true, Classical.not_not, decide_eq_true_eq, z_sq, Option.bind_some, z_lits, z_n_add, z_n_mul, z_lt, z_le, z_eq, z_ne1, z_1ne, z_lt1, z_1lt, z_ltT, z_ltF, z_leT, z_leF, z_eqF, z_b_0, z_b_1, ↓reduceIte, eq_self, not_true_eq_false, not_false_eq_true, and_true, true_and, and_false, false_and, Nat.add_zero, Nat.zero_add]
    · simp (disch := omega) only [f_Mo_table, M_thr hS, M_isTable, M_wout hb, or_true, true_or, or_false, false_or, z_b_T, z_b_F, Bool.false_eq_true, Classical.not_not, decide_eq_true_eq, z_sq, Option.bind_some, z_lits, z_n_add, z_n_mul, z_lt, z_le, z_eq, z_ne1, z_1ne, z_lt1, z_1lt, z_ltT, z_ltF, z_leT, z_leF, z_eqF, z_b_0, z_b_1, ↓reduceIte, eq_self, not_true_eq_false, not_false_eq_true, and_true, true_and, and_false, false_and, Nat.add_zero, Nat.zero_add]
  rcases z_in d 1000 (by omega) with ⟨x, hx, rfl⟩ | hd
  rotate_left
  · refine z_call.no (r := z_n 0) H ?_ ?_
    · simp (disch := omega) only [f_Rs_table, C_isTable, C_in, C_out hd, or_true, true_or, or_false, false_or, z_b_T, z_b_F, Bool.false_eq_true, Classical.not_not, decide_eq_true_eq, z_sq, Option.bind_some, z_lits, z_n_add, z_n_mul, z_lt, z_le, z_eq, z_ne1, z_1ne, z_lt1, z_1lt, z_ltT, z_ltF, z_leT, z_leF, z_eqF, z_b_0, z_b_1, ↓reduceIte, eq_self, not_true_eq_false, not_false_eq_true, and_true, true_and, and_false, false_and, Nat.add_zero, Nat.zero_add]
    · simp (disch := omega) only [f_Mo_table, M_thr hS, M_isTable, M_win, M_wout hd, or_true, true_or, or_false, false_or, z_b_T, z_b_F, Bool.false_eq_true, Classical.not_not, decide_eq_true_eq, z_sq, Option.bind_some, z_lits, z_n_add, z_n_mul, z_lt, z_le, z_eq, z_ne1, z_1ne, z_lt1, z_1lt, z_ltT, z_ltF, z_leT, z_leF, z_eqF, z_b_0, z_b_1, ↓reduceIte, eq_self, not_true_eq_false, not_false_eq_true, and_true, true_and, and_false, false_and, Nat.add_zero, Nat.zero_add]
  have ht2 : t = 0 ∨ t = 1 ∨ t = 2 ∨ t = 3 := by omega
  have g1 : q_gr (q_ga (z_h S I J P n) 28 28 (z_n t)) = some (29 + t) := by
    refine z_gra (s_28 hS) (by omega) (z_rpl (by omega)) ?_
    rcases ht2 with rfl | rfl | rfl | rfl
    · exact p_28_0 hP
    · exact p_28_1 hP
    · exact p_28_2 hP
    · exact p_28_3 hP
  have g2 : q_sa (z_h S I J P n) 20 (29 + t) (z_n k) (.int (z_n x)) = some (z_h S (z_up I (29 + t) k (z_n x)) J P n) := by
    refine z_sai (ks := List.replicate 17 0) ?_ (by omega) (by omega) (z_rpl (by omega))
    rcases ht2 with rfl | rfl | rfl | rfl
    · exact s_29 hS
    · exact s_30 hS
    · exact s_31 hS
    · exact s_32 hS
  have cl := C_lives (I := I) (J := J) (n := n) hS hP
  have g3 : q_gr (q_gf (z_h S I J P n) 4 27 0) = some 28 := z_gr (s_27 hS) rfl (p_27_0 hP)
  refine ⟨z_n 1, S, z_up I (29 + t) k (z_n x), J, P, n, K, z_up (z_up (z_up I (29 + t) k (z_n x)) 83 0 (z_n 0)) 101 (17 * t + k) (z_n x), J, ?_, ?_, ⟨by omega, by omega, by omega⟩, ?_⟩
  · simp (disch := omega) only [f_Rs_table, C_isTable, C_in, cl, g3, g1, g2, or_true, true_or, or_false, false_or, z_b_T, z_b_F, Bool.false_eq_true, Classical.not_not, decide_eq_true_eq, z_sq, Option.bind_some, z_lits, z_n_add, z_n_mul, z_lt, z_le, z_eq, z_ne1, z_1ne, z_lt1, z_1lt, z_ltT, z_ltF, z_leT, z_leF, z_eqF, z_b_0, z_b_1, ↓reduceIte, eq_self, not_true_eq_false, not_false_eq_true, and_true, true_and, and_false, false_and, Nat.add_zero, Nat.zero_add]
  · simp (disch := omega) only [f_Mo_table, M_thr hS, M_isTable, M_win, z_Mr hS hP, z_Mw hS, or_true, true_or, or_false, false_or, z_b_T, z_b_F, Bool.false_eq_true, Classical.not_not, decide_eq_true_eq, z_sq, Option.bind_some, z_lits, z_n_add, z_n_mul, z_lt, z_le, z_eq, z_ne1, z_1ne, z_lt1, z_1lt, z_ltT, z_ltF, z_leT, z_leF, z_eqF, z_b_0, z_b_1, ↓reduceIte, eq_self, not_true_eq_false, not_false_eq_true, and_true, true_and, and_false, false_and, Nat.add_zero, Nat.zero_add]
  have e : ∀ a, a ≠ 29 + t → a ≠ 83 → a ≠ 101 → z_up (z_up (z_up I (29 + t) k (z_n x)) 83 0 (z_n 0)) 101 (17 * t + k) (z_n x) a = I a := fun a h1 h2 h3 => by rw [z_ups h3, z_ups h2, z_ups h1]
  have e83 : ∀ i, i ≠ 0 → z_up (z_up (z_up I (29 + t) k (z_n x)) 83 0 (z_n 0)) 101 (17 * t + k) (z_n x) 83 i = I 83 i := fun i hi => by rw [z_ups (by decide), z_up_e, if_neg hi, z_ups (by omega)]
  have e101 : ∀ i, z_up (z_up (z_up I (29 + t) k (z_n x)) 83 0 (z_n 0)) 101 (17 * t + k) (z_n x) 101 i = if i = 17 * t + k then z_n x else I 101 i := fun i => by rw [z_up_e, z_ups (by decide), z_ups (by omega)]
  have e29 : ∀ i, z_up (z_up (z_up I (29 + t) k (z_n x)) 83 0 (z_n 0)) 101 (17 * t + k) (z_n x) (29 + t) i = if i = k then z_n x else I (29 + t) i := fun i => by rw [z_ups (by omega), z_ups (by omega), z_up_e]
  generalize z_up (z_up (z_up I (29 + t) k (z_n x)) 83 0 (z_n 0)) 101 (17 * t + k) (z_n x) = Y at *
  have hc : h_cg I J Y J := h_cg_of (fun a h1 h2 h3 => e a (by omega) (by omega) (by omega))
  obtain ⟨m1, m2, m3, m4, m5, m6, m7⟩ := B.2.2.2.1
  obtain ⟨c1, c2, c3, c4, c5⟩ := B.qC
  refine H.set (fun a ha => ⟨e a (by omega) (by omega) (by omega), rfl⟩) (e83 16 (by decide)) (fun _ _ => rfl) (z_iM.set B.2.2.2.1 (fun a h1 h2 => ⟨e a (by omega) (by omega) (by omega), rfl⟩) (fun s hs => ?_) (fun s hs => ?_) (fun u hu => ?_) (fun i hi => ?_) ?_) ⟨fun s hs => ?_, fun u hu => ?_, fun t' k' ht' hk' => ?_, fun i hi => ?_, ?_⟩ (H.2.1.set hc (fun a h1 h2 => e a (by omega) (by omega) (by omega))) (fun s hs => ?_)
  · rw [z_vi_w hc, hc.i 87 rfl]; exact m2 s hs
  · rw [hc.i 85 rfl, hc.i 86 rfl, hc.i 88 rfl, e 89 (by omega) (by decide) (by decide)]; exact m4 s hs
  · rw [e 84 (by omega) (by decide) (by decide)]; exact m5 u hu
  · rw [e101]
    by_cases q : i = 17 * t + k
    · rw [if_pos q]; exact ⟨x, rfl, hx⟩
    · rw [if_neg q]; exact m6 i hi
  · rw [e83 32 (by decide), e 103 (by omega) (by decide) (by decide)]; exact m7
  · rw [e 14 (by omega) (by decide) (by decide), e 15 (by omega) (by decide) (by decide), e 16 (by omega) (by decide) (by decide), e 17 (by omega) (by decide) (by decide), hc.i 85 rfl, hc.i 87 rfl, hc.i 88 rfl, e 89 (by omega) (by decide) (by decide)]; exact c1 s hs
  · rw [e 19 (by omega) (by decide) (by decide), e 84 (by omega) (by decide) (by decide)]; exact c2 u hu
  · rw [e101]
    by_cases q : t' = t
    · subst q
      rw [e29]
      by_cases q2 : k' = k
      · rw [if_pos q2, if_pos (by omega)]
      · rw [if_neg q2, if_neg (by omega)]; exact c3 t' k' ht' hk'
    · rw [e (29 + t') (by omega) (by omega) (by omega), if_neg (by omega)]; exact c3 t' k' ht' hk'
  · rw [e 33 (by omega) (by decide) (by decide), e 103 (by omega) (by decide) (by decide)]; exact c4 i hi
  · rw [e 27 (by omega) (by decide) (by decide), e83 32 (by decide)]; exact c5
  · rw [z_th_w hc, z_Ds_w hc]; exact B.2.2.2.2.2 s hs
set_option maxRecDepth 100000 in
set_option maxHeartbeats 4000000 in
theorem X_gap (H : Inv S I J P K n.1) (y : Int32) : z_call (f_Rs_gap 8 y) (f_Mo_gap 83 y) S I J P n := by
  have B := H.1
  have hS := B.qS
  have hP := B.qP
  have cl := C_lives (I := I) (J := J) (n := n) hS hP
  have cl1 := fun I J => C_lives (I := I) (J := J) (n := n) hS hP
  by_cases hin : ¬ y < (-30 : Int32) ∧ ¬ (30 : Int32) < y
  rotate_left
  · refine z_call.no (r := -z_n 1) H ?_ ?_
    · unfold f_Rs_gap
      rw [C_isFrom, z_b_f hin, z_sq]; rfl
    · unfold f_Mo_gap
      rw [show (0 : Int32) = z_n 0 from rfl, M_thr hS, Option.bind_some, M_within, z_b_f hin, z_sq]; rfl
  obtain ⟨m1, m2, m3, m4, m5, m6, ⟨g, g1, g2, g3⟩⟩ := B.2.2.2.1
  obtain ⟨c1, c2, c3, c4, c5⟩ := B.qC
  have g27 : I 27 2 = z_n g := by rw [c5]; exact g1
  have hin' : ¬ y < -z_n 30 ∧ ¬ z_n 30 < y := hin
  have ci : f_Rs_isFrom (-z_n 30) y (z_n 30) (z_h S I J P n) = some (z_n 1, z_h S I J P n) := by rw [C_isFrom, z_b_t hin']
  have mi : ∀ I J, f_Mo_within y (-z_n 30) (z_n 30) (z_h S I J P n) = some (z_n 1, z_h S I J P n) := fun I J => by rw [M_within, z_b_t hin']
  have f32 : z_up I 83 0 (z_n 0) 83 32 = z_n g := by rw [z_up_e, if_neg (by decide)]; exact g1
  by_cases h4 : g = 4
  · subst h4
    refine z_call.no (r := -z_n 1) H ?_ ?_
    · simp (disch := omega) only [f_Rs_gap, ci, cl, f_Li_addGap, z_Lir hS hP, g27, or_true, true_or, or_false, false_or, z_b_T, z_b_F, Bool.false_eq_true, Classical.not_not, decide_eq_true_eq, z_sq, Option.bind_some, z_lits, z_n_add, z_n_mul, z_lt, z_le, z_eq, z_ne1, z_1ne, z_lt1, z_1lt, z_ltT, z_ltF, z_leT, z_leF, z_eqF, z_b_0, z_b_1, ↓reduceIte, eq_self, not_true_eq_false, not_false_eq_true, and_true, true_and, and_false, false_and, Nat.add_zero, Nat.zero_add]
    · simp (disch := omega) only [f_Mo_gap, M_thr hS, mi, z_Mr hS hP, f32, or_true, true_or, or_false, false_or, z_b_T, z_b_F, Bool.false_eq_true, Classical.not_not, decide_eq_true_eq, z_sq, Option.bind_some, z_lits, z_n_add, z_n_mul, z_lt, z_le, z_eq, z_ne1, z_1ne, z_lt1, z_1lt, z_ltT, z_ltF, z_leT, z_leF, z_eqF, z_b_0, z_b_1, ↓reduceIte, eq_self, not_true_eq_false, not_false_eq_true, and_true, true_and, and_false, false_and, Nat.add_zero, Nat.zero_add]
  have e27 : z_up I 33 g y 27 2 = z_n g := by rw [z_ups (by decide)]; exact g27
  have e27' : z_up (z_up I 33 g y) 27 2 (z_n (g + 1)) 27 2 = z_n (g + 1) := z_up_s _ _ _ _
  refine ⟨z_n (g + 1), S, z_up (z_up I 33 g y) 27 2 (z_n (g + 1)), J, P, n, K, z_up (z_up (z_up (z_up (z_up I 33 g y) 27 2 (z_n (g + 1))) 83 0 (z_n 0)) 103 g y) 83 32 (z_n (g + 1)), J, ?_, ?_, ⟨by omega, by omega, by omega⟩, ?_⟩
  · simp (disch := omega) only [f_Rs_gap, ci, cl1, f_Li_addGap, z_Lir hS hP, z_Liw hS, g27, e27, e27', or_true, true_or, or_false, false_or, z_b_T, z_b_F, Bool.false_eq_true, Classical.not_not, decide_eq_true_eq, z_sq, Option.bind_some, z_lits, z_n_add, z_n_mul, z_lt, z_le, z_eq, z_ne1, z_1ne, z_lt1, z_1lt, z_ltT, z_ltF, z_leT, z_leF, z_eqF, z_b_0, z_b_1, ↓reduceIte, eq_self, not_true_eq_false, not_false_eq_true, and_true, true_and, and_false, false_and, Nat.add_zero, Nat.zero_add]
  · have w1 : z_up (z_up (z_up I 33 g y) 27 2 (z_n (g + 1))) 83 0 (z_n 0) 83 32 = z_n g := by rw [z_up_e, if_neg (by decide), z_ups (by decide), z_ups (by decide)]; exact g1
    have w2 : z_up (z_up (z_up (z_up I 33 g y) 27 2 (z_n (g + 1))) 83 0 (z_n 0)) 103 g y 83 32 = z_n g := by rw [z_ups (by decide)]; exact w1
    have w3 : ∀ X, z_up X 83 32 (z_n (g + 1)) 83 32 = z_n (g + 1) := fun X => z_up_s _ _ _ _
    simp (disch := omega) only [f_Mo_gap, M_thr hS, mi, z_Mr hS hP, z_Mw hS, w1, w2, w3, h4, or_true, true_or, or_false, false_or, z_b_T, z_b_F, Bool.false_eq_true, Classical.not_not, decide_eq_true_eq, z_sq, Option.bind_some, z_lits, z_n_add, z_n_mul, z_lt, z_le, z_eq, z_ne1, z_1ne, z_lt1, z_1lt, z_ltT, z_ltF, z_leT, z_leF, z_eqF, z_b_0, z_b_1, ↓reduceIte, eq_self, not_true_eq_false, not_false_eq_true, and_true, true_and, and_false, false_and, Nat.add_zero, Nat.zero_add]
  have e : ∀ a, a ≠ 33 → a ≠ 27 → a ≠ 83 → a ≠ 103 → z_up (z_up (z_up (z_up (z_up I 33 g y) 27 2 (z_n (g + 1))) 83 0 (z_n 0)) 103 g y) 83 32 (z_n (g + 1)) a = I a := fun a h1 h2 h3 h4 => by rw [z_ups h3, z_ups h4, z_ups h3, z_ups h2, z_ups h1]
  have e83 : ∀ i, i ≠ 0 → i ≠ 32 → z_up (z_up (z_up (z_up (z_up I 33 g y) 27 2 (z_n (g + 1))) 83 0 (z_n 0)) 103 g y) 83 32 (z_n (g + 1)) 83 i = I 83 i := fun i hi hj => by rw [z_up_e, if_neg hj, z_ups (by decide), z_up_e, if_neg hi, z_ups (by decide), z_ups (by decide)]
  have e32 : z_up (z_up (z_up (z_up (z_up I 33 g y) 27 2 (z_n (g + 1))) 83 0 (z_n 0)) 103 g y) 83 32 (z_n (g + 1)) 83 32 = z_n (g + 1) := z_up_s _ _ _ _
  have e103 : ∀ i, z_up (z_up (z_up (z_up (z_up I 33 g y) 27 2 (z_n (g + 1))) 83 0 (z_n 0)) 103 g y) 83 32 (z_n (g + 1)) 103 i = if i = g then y else I 103 i := fun i => by rw [z_ups (by decide), z_up_e, z_ups (by decide), z_ups (by decide), z_ups (by decide)]
  have e33 : ∀ i, z_up (z_up (z_up (z_up (z_up I 33 g y) 27 2 (z_n (g + 1))) 83 0 (z_n 0)) 103 g y) 83 32 (z_n (g + 1)) 33 i = if i = g then y else I 33 i := fun i => by rw [z_ups (by decide), z_ups (by decide), z_ups (by decide), z_ups (by decide), z_up_e]
  have e272 : z_up (z_up (z_up (z_up (z_up I 33 g y) 27 2 (z_n (g + 1))) 83 0 (z_n 0)) 103 g y) 83 32 (z_n (g + 1)) 27 2 = z_n (g + 1) := by rw [z_ups (by decide), z_ups (by decide), z_ups (by decide), z_up_s]
  generalize z_up (z_up (z_up (z_up (z_up I 33 g y) 27 2 (z_n (g + 1))) 83 0 (z_n 0)) 103 g y) 83 32 (z_n (g + 1)) = Y at *
  have hc : h_cg I J Y J := h_cg_of (fun a h1 h2 h3 => e a (by omega) (by omega) (by omega) (by omega))
  refine H.set (fun a ha => ⟨e a (by omega) (by omega) (by omega) (by omega), rfl⟩) (e83 16 (by decide) (by decide)) (fun _ _ => rfl) (z_iM.set B.2.2.2.1 (fun a h1 h2 => ⟨e a (by omega) (by omega) (by omega) (by omega), rfl⟩) (fun s hs => ?_) (fun s hs => ?_) (fun u hu => ?_) (fun i hi => ?_) ?_) ⟨fun s hs => ?_, fun u hu => ?_, fun t' k' ht' hk' => ?_, fun i hi => ?_, ?_⟩ (H.2.1.set hc (fun a h1 h2 => e a (by omega) (by omega) (by omega) (by omega))) (fun s hs => ?_)
  · rw [z_vi_w hc, hc.i 87 rfl]; exact m2 s hs
  · rw [hc.i 85 rfl, hc.i 86 rfl, hc.i 88 rfl, e 89 (by omega) (by decide) (by decide) (by decide)]; exact m4 s hs
  · rw [e 84 (by omega) (by decide) (by decide) (by decide)]; exact m5 u hu
  · rw [e 101 (by decide) (by decide) (by decide) (by decide)]; exact m6 i hi
  · refine ⟨g + 1, e32, by omega, fun i hi => ?_⟩
    rw [e103]
    by_cases q : i = g
    · rw [if_pos q]
      have h1 := hin.1
      have h2 := hin.2
      rw [Int32.lt_iff_toInt_lt, show (-30 : Int32).toInt = -30 by decide] at h1
      rw [Int32.lt_iff_toInt_lt, show (30 : Int32).toInt = 30 by decide] at h2
      exact ⟨y.toInt, (Int32.ofInt_toInt y).symm, by omega, by omega⟩
    · rw [if_neg q]; exact g3 i (by omega)
  · rw [e 14 (by omega) (by decide) (by decide) (by decide), e 15 (by omega) (by decide) (by decide) (by decide), e 16 (by omega) (by decide) (by decide) (by decide), e 17 (by omega) (by decide) (by decide) (by decide), hc.i 85 rfl, hc.i 87 rfl, hc.i 88 rfl, e 89 (by omega) (by decide) (by decide) (by decide)]; exact c1 s hs
  · rw [e 19 (by omega) (by decide) (by decide) (by decide), e 84 (by omega) (by decide) (by decide) (by decide)]; exact c2 u hu
  · rw [e 101 (by decide) (by decide) (by decide) (by decide), e (29 + t') (by omega) (by omega) (by omega) (by omega)]; exact c3 t' k' ht' hk'
  · rw [e33, e103, c4 i hi]
  · rw [e272, e32]
  · rw [z_th_w hc, z_Ds_w hc]; exact B.2.2.2.2.2 s hs
end
