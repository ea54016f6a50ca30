/-! MARKS: back. -/
section
variable {S : z_SH} {I : z_MI} {J : z_MJ} {P : z_MP} {K : Nat → Bool} {n : Nat × Nat}
set_option maxRecDepth 100000 in
set_option maxHeartbeats 4000000 in
theorem X_mark_take (H : Inv S I J P K n.1) {m : Nat} (hm : m < 4) {b : Int32} (hb : ¬ b = z_n 0) (h1 : I 21 m = z_n 1) (h2 : I 125 m = z_n 1) (h3 : i_m1 S I J P K n.1 m) : z_call (f_Rs_mark 8 (z_n m) b) (f_Mo_mark 83 (z_n m) b) S I J P n := by
  have B := H.1
  have hS := B.qS
  have hP := B.qP
  obtain ⟨m1, m2, m3, m4, m5, m6, m7⟩ := B.2.2.2.1
  obtain ⟨c1, c2, c3, c4, c5⟩ := B.qC
  obtain ⟨o1, o2, o3, o4, o5⟩ := C_hob (n := n) hS hP
  obtain ⟨k1, k2, k3, k4, k5, k6⟩ := C_mk (n := n) hS hP hm
  obtain ⟨Y, Q, a1, a2, a3, a4, a5, a6⟩ := C_copy (I := I) (J := J) (n := n) (z_shf13 hS hP) (z_shfm hS hP hm) (by omega) (by omega) (fun j hj => by
    obtain ⟨a, r, v, c, y, g1, g2, g3, g4, g5⟩ := h3.1 j hj
    rw [show 43 + 7 * m + 1 = 44 + 7 * m by omega, g2.1]
    have : a = 0 ∨ a = 1 := by omega
    rcases this with rfl | rfl
    · exact Or.inl rfl
    · exact Or.inr rfl) (fun j hj => by
    obtain ⟨a, r, v, c, y, g1, g2, g3, g4, g5⟩ := h3.1 j hj
    rw [show 43 + 7 * m + 5 = 48 + 7 * m by omega]
    rcases g5 with ⟨-, g5⟩ | ⟨-, p, g6, g7⟩
    · exact Or.inl g5
    · exact Or.inr ⟨p, _, g6, g7.2.1.1⟩)
  have hQ : z_Pt Q := hP.pages (fun a h1 h2 h3 h4 h5 => a5 a (by omega))
  have q1 := (C_hob (n := n) hS hQ).1
  have om := fun I J => z_ob (I := I) (J := J) (P := Q) (n := n) (s_83 hS)
  have w22 : ∀ I J, q_sf (z_h S I J Q n) 3 22 0 (.int (z_n 1)) = some (z_h S (z_up I 22 0 (z_n 1)) J Q n) := fun _ _ => z_sfi (s_22 hS) (by decide) rfl
  obtain ⟨Y2, Z2, b1, b2, b3, b4, b5, b6, b7, b8⟩ := M_takes (I := z_up (z_up Y 22 0 (z_n 1)) 83 0 (z_n 0)) (J := J) (n := n) hS hQ hm
  have r125 : ∀ I J, q_gi (q_ga (z_h S I J Q n) 22 125 (z_n m)) = some (I 125 m) := fun _ _ => z_gia (s_125 hS) (by omega) (z_rpl hm)
  have w125 : ∀ I J v, q_sa (z_h S I J Q n) 22 125 (z_n m) (.int v) = some (z_h S (z_up I 125 m v) J Q n) := fun _ _ _ => z_sai (s_125 hS) (by decide) (by omega) (z_rpl hm)
  have b0 : ∀ a, a ≠ 22 → a ≠ 83 → ¬ (13 < a ∧ a ≤ 19) → z_up (z_up Y 22 0 (z_n 1)) 83 0 (z_n 0) a = I a := fun a h1 h2 h3 => by rw [z_ups h2, z_ups h1, a2 a (by omega)]
  have l125 : z_up (z_up Y 22 0 (z_n 1)) 83 0 (z_n 0) 125 m = z_n 1 := by rw [b0 125 (by omega) (by omega) (by omega)]; exact h2
  have hb' := eq_false hb
  refine ⟨z_n 1, S, z_up Y 22 0 (z_n 1), J, Q, n, K, z_up Y2 125 m (z_n 1), Z2, ?_, ?_, ⟨by omega, by omega, by omega⟩, ?_⟩
  · simp (disch := omega) only [f_Rs_mark, C_in, hb', k1, k2, k3, k4, h1, o2, o4, a1, q1, w22, or_true, true_or, or_false, false_or, z_b_T, z_b_F, Bool.false_eq_true, Classical.not_not, decide_eq_true_eq, z_sq, Option.bind_some, z_lits, z_n_add, z_n_mul, z_lt, z_le, z_eq, z_ne1, z_1ne, z_lt1, z_1lt, z_ltT, z_ltF, z_leT, z_leF, z_eqF, z_b_0, z_b_1, ↓reduceIte, eq_self, not_true_eq_false, not_false_eq_true, and_true, true_and, and_false, false_and, Nat.add_zero, Nat.zero_add]
  · simp (disch := omega) only [f_Mo_mark, M_thr hS, M_win, hb', om, z_Mr hS hQ, l125, b1, w125, or_true, true_or, or_false, false_or, z_b_T, z_b_F, Bool.false_eq_true, Classical.not_not, decide_eq_true_eq, z_sq, Option.bind_some, z_lits, z_n_add, z_n_mul, z_lt, z_le, z_eq, z_ne1, z_1ne, z_lt1, z_1lt, z_ltT, z_ltF, z_leT, z_leF, z_eqF, z_b_0, z_b_1, ↓reduceIte, eq_self, not_true_eq_false, not_false_eq_true, and_true, true_and, and_false, false_and, Nat.add_zero, Nat.zero_add]
  have e125 : z_up Y2 125 m (z_n 1) 125 = I 125 := by
    funext j
    rw [z_up_e, b2 125 (by omega), b0 125 (by omega) (by omega) (by omega)]
    by_cases q : j = m
    · rw [if_pos q, q, h2]
    · rw [if_neg q]
  have e : ∀ a, ¬ (13 < a ∧ a ≤ 19) → a ≠ 22 → (a < 83 ∨ 95 < a) → z_up Y2 125 m (z_n 1) a = I a := by
    intro a h1 h2 h3
    by_cases q : a = 125
    · rw [q]; exact e125
    · rw [z_ups q, b2 a (by omega), b0 a (by omega) (by omega) (by omega)]
  have e22 : z_up Y2 125 m (z_n 1) 22 0 = z_n 1 := by rw [z_ups (by decide), b2 22 (by omega), z_ups (by decide), z_up_s]
  have e83 : ∀ i, i ≠ 0 → z_up Y2 125 m (z_n 1) 83 i = I 83 i := by
    intro i hi
    rw [z_ups (by decide), b2 83 (by omega), z_up_e, if_neg hi, z_ups (by decide), a2 83 (by omega)]
  have eC : ∀ k, 1 ≤ k → k ≤ 4 → ∀ j, j < 24 → z_up Y2 125 m (z_n 1) (13 + k) j = I (43 + 7 * m + k) j := by
    intro k h1 h2 j hj
    rw [z_ups (by omega), b2 _ (by omega), z_ups (by omega), z_ups (by omega)]
    exact a3 k h1 h2 j hj
  have e19 : ∀ j, j < 6 → z_up Y2 125 m (z_n 1) 19 j = I (49 + 7 * m) j := by
    intro j hj
    rw [z_ups (by omega), b2 _ (by omega), z_ups (by omega), z_ups (by omega)]
    have := a4 j hj
    rw [show 43 + 7 * m + 6 = 49 + 7 * m by omega] at this
    exact this
  have e84 : ∀ j, j < 6 → z_up Y2 125 m (z_n 1) 84 j = I 126 (6 * m + j) := by
    intro j hj
    rw [z_ups (by omega), b4 j hj, b0 126 (by omega) (by omega) (by omega)]
  have e85 : ∀ k, k < 6 → ∀ j, j < 24 → z_up Y2 125 m (z_n 1) (85 + k) j = k_t6 I m j k := by
    intro k hk j hj
    rw [z_ups (by omega), b5 k hk j hj]
    unfold k_t6
    rw [b0 127 (by omega) (by omega) (by omega)]
  have e91 : ∀ k, k < 5 → ∀ j, j < 288 → z_up Y2 125 m (z_n 1) (91 + k) j = I 128 (1440 * m + 5 * j + k) := by
    intro k hk j hj
    rw [z_ups (by omega), b6 k hk j hj, b0 128 (by omega) (by omega) (by omega)]
  have l24 : z_up Y2 125 m (z_n 1) 90 24 = I 90 24 := by rw [z_ups (by decide), b8 24 (by omega), b0 90 (by omega) (by omega) (by omega)]
  generalize z_up Y2 125 m (z_n 1) = W at *
  -- what the mark holds of each sheet
  have hs3 := h3.1
  have K6 : ∀ s, s < 24 → ∃ a r v c y : Nat, (a ≤ 1 ∧ r ≤ 1 ∧ (r = 1 → a = 1) ∧ v < 6 ∧ c ≤ 7 ∧ y ≤ 20) ∧ (W 14 s = z_n a ∧ W 15 s = z_n v ∧ W 16 s = z_n c ∧ W 17 s = z_n y) ∧ (W 85 s = z_n a ∧ W 86 s = z_n r ∧ W 87 s = z_n v ∧ W 88 s = z_n c ∧ W 89 s = z_n y ∧ W 90 s = z_n (z_Dm I J m s).1) ∧ d_eq (z_Dm I J m s) (z_Ds W Z2 s) ∧ d_ok (z_Dm I J m s) ∧ ((r = 0 ∧ Q 18 s = none) ∨ (r = 1 ∧ ∃ p, Q 18 s = some p ∧ z_pg S I J P K n.1 p (z_Dm I J m s))) := by
    intro s hs
    obtain ⟨a, r, v, c, y, g1, ⟨g2, g2', g2'', g2'''⟩, ⟨g3, g3', g3'', g31, g32, g33⟩, g4, g5⟩ := hs3 s hs
    have x1 := eC 1 (by omega) (by omega) s hs
    have x2 := eC 2 (by omega) (by omega) s hs
    have x3 := eC 3 (by omega) (by omega) s hs
    have x4 := eC 4 (by omega) (by omega) s hs
    have pp := a6 s hs
    rw [show 43 + 7 * m + 1 = 44 + 7 * m by omega, g2] at x1
    rw [show 43 + 7 * m + 2 = 45 + 7 * m by omega, g2'] at x2
    rw [show 43 + 7 * m + 3 = 46 + 7 * m by omega, g2''] at x3
    rw [show 43 + 7 * m + 4 = 47 + 7 * m by omega, g2'''] at x4
    rw [show 43 + 7 * m + 5 = 48 + 7 * m by omega] at pp
    have t01 : ∀ w, w ≤ 1 → (if z_n w = z_n 1 then z_n 1 else z_n 0) = z_n w := by
      intro w hw
      have : w = 0 ∨ w = 1 := by omega
      rcases this with rfl | rfl <;> decide
    have y0 : W 85 s = z_n a := by
      rw [e85 0 (by omega) s hs]
      show (if I 127 (144 * m + 6 * s) = z_n 1 then z_n 1 else z_n 0) = _
      rw [g3]; exact t01 a g1.1
    have y1 : W 86 s = z_n r := by
      rw [e85 1 (by omega) s hs]
      show (if I 127 (144 * m + 6 * s + 1) = z_n 1 then z_n 1 else z_n 0) = _
      rw [g3']; exact t01 r g1.2.1
    have y2 : W 87 s = z_n v := (e85 2 (by omega) s hs).trans g3''
    have y3 : W 88 s = z_n c := (e85 3 (by omega) s hs).trans g31
    have y4 : W 89 s = z_n y := (e85 4 (by omega) s hs).trans g32
    have y5 : W 90 s = z_n (z_Dm I J m s).1 := (e85 5 (by omega) s hs).trans g33
    have d12 := g4.1
    have dl : (z_Ds W Z2 s).1 = (z_Dm I J m s).1 := by
      show (W 90 s).toNatClampNeg = _
      rw [y5, z_n_nat (by omega)]
    have de : d_eq (z_Dm I J m s) (z_Ds W Z2 s) := by
      refine ⟨dl.symm, fun l hl => ⟨fun k hk => ?_, fun k hk => ?_⟩⟩
      · show (if k < 5 then I 128 (1440 * m + 5 * (12 * s + l) + k) else z_n 0) = if k < 5 then W (91 + k) (12 * s + l) else z_n 0
        rw [if_pos hk, if_pos hk, e91 k hk _ (by omega)]
      · show (if k < 3 then J 129 (864 * m + 3 * (12 * s + l) + k) else 0) = if k < 3 then Z2 (96 + k) (12 * s + l) else 0
        rw [if_pos hk, if_pos hk, b7 k hk _ (by omega)]
    refine ⟨a, r, v, c, y, g1, ⟨x1, x2, x3, x4⟩, ⟨y0, y1, y2, y3, y4, y5⟩, de, g4, ?_⟩
    rw [pp]
    exact g5
  refine H.setm (fun a ha => ⟨e a (by omega) (by omega) (by omega), b3 a (by omega)⟩) (e83 16 (by decide)) (fun a h1 h2 h3 h4 h5 => a5 a (by omega)) ⟨fun s hs => ?_, fun s hs => ?_, fun s hs => ?_, fun s hs => ?_, fun u hu => ?_, fun i hi => ?_, ?_⟩ ⟨fun s hs => ?_, fun u hu => ?_, fun t' k' ht' hk' => ?_, fun i hi => ?_, ?_⟩ (Or.inr e22) (fun s hs => ?_) (fun gp => ?_)
  · by_cases q : s < 24
    · obtain ⟨a, r, v, c, y, g1, g2, g3, de, g4, g5⟩ := K6 s q
      have d12 := g4.1
      have el : z_ln W s = (z_Dm I J m s).1 := by unfold z_ln; rw [g3.2.2.2.2.2, z_n_nat (by omega)]
      rw [el]; exact ⟨g3.2.2.2.2.2, d12⟩
    · have : s = 24 := by omega
      subst this
      unfold z_ln
      rw [l24]; exact m1 24 (by omega)
  · obtain ⟨a, r, v, c, y, g1, g2, g3, de, g4, g5⟩ := K6 s hs
    unfold z_vi
    rw [g3.2.2.1, z_n_nat (by omega)]; exact ⟨rfl, g1.2.2.2.1⟩
  · obtain ⟨a, r, v, c, y, g1, g2, g3, de, g4, g5⟩ := K6 s hs
    exact de.ok g4
  · obtain ⟨a, r, v, c, y, g1, g2, g3, de, g4, g5⟩ := K6 s hs
    rw [g3.1, g3.2.1, g3.2.2.2.1, g3.2.2.2.2.1]
    have two : ∀ w, w ≤ 1 → z_n w = z_n 0 ∨ z_n w = z_n 1 := by
      intro w hw
      have : w = 0 ∨ w = 1 := by omega
      rcases this with rfl | rfl
      · exact Or.inl rfl
      · exact Or.inr rfl
    refine ⟨two a g1.1, two r g1.2.1, fun h => ?_, ⟨c, rfl, g1.2.2.2.2.1⟩, ⟨y, rfl, g1.2.2.2.2.2⟩⟩
    rw [z_eq (by omega) (by omega)] at h
    rw [g1.2.2.1 h]
  · rw [e84 u hu]; exact (h3.2 u hu).2
  · rw [e 101 (by omega) (by omega) (by omega)]; exact m6 i hi
  · rw [e83 32 (by decide), e 103 (by omega) (by omega) (by omega)]; exact m7
  · obtain ⟨a, r, v, c, y, g1, g2, g3, de, g4, g5⟩ := K6 s hs
    rw [g2.1, g2.2.1, g2.2.2.1, g2.2.2.2, g3.1, g3.2.2.1, g3.2.2.2.1, g3.2.2.2.2.1]
    exact ⟨rfl, rfl, rfl, rfl⟩
  · rw [e19 u hu, e84 u hu]; exact (h3.2 u hu).1
  · rw [e (29 + t') (by omega) (by omega) (by omega), e 101 (by omega) (by omega) (by omega)]; exact c3 t' k' ht' hk'
  · rw [e 33 (by omega) (by omega) (by omega), e 103 (by omega) (by omega) (by omega)]; exact c4 i hi
  · rw [e 27 (by omega) (by omega) (by omega), e83 32 (by decide)]; exact c5
  · obtain ⟨a, r, v, c, y, g1, g2, g3, de, g4, g5⟩ := K6 s hs
    have hth : z_th W s = true ↔ r = 1 := by
      unfold z_th
      rw [decide_eq_true_eq, g3.1, g3.2.1, z_eq (by omega) (by omega), z_eq (by omega) (by omega)]
      constructor
      · intro h; omega
      · intro h; have := g1.2.2.1 h; omega
    rcases g5 with ⟨g5, g6⟩ | ⟨g5, p, g6, g7⟩
    · refine Or.inl ⟨?_, g6⟩
      cases h : z_th W s with
      | false => rfl
      | true => have := hth.mp h; omega
    · exact Or.inr ⟨hth.mpr g5, p, g6, g7.deq de g4⟩
  · refine H.2.2.2.1.mono (fun a ha => ⟨?_, b3 a (by omega), a5 a (by omega)⟩) gp
    exact e a (by omega) (by omega) (by omega)
set_option maxRecDepth 100000 in
set_option maxHeartbeats 4000000 in
theorem X_mark (H : Inv S I J P K n.1) (a b : Int32) : z_call (f_Rs_mark 8 a b) (f_Mo_mark 83 a b) S I J P n := by
  have B := H.1
  have hS := B.qS
  have hP := B.qP
  rcases z_in a 3 (by omega) with ⟨m, hm, rfl⟩ | ha
  rotate_left
  · refine z_call.no (r := z_n 0) H ?_ ?_
    · simp (disch := omega) only [f_Rs_mark, C_out ha, or_true, true_or, or_false, false_or, z_b_T, z_b_F, Bool.false_eq_true, Classical.not_not, decide_eq_true_eq, z_sq, Option.bind_some, z_lits, z_n_add, z_n_mul, z_lt, z_le, z_eq, z_ne1, z_1ne, z_lt1, z_1lt, z_ltT, z_ltF, z_leT, z_leF, z_eqF, z_b_0, z_b_1, ↓reduceIte, eq_self, not_true_eq_false, not_false_eq_true, and_true, true_and, and_false, false_and, Nat.add_zero, Nat.zero_add]
    · simp (disch := omega) only [f_Mo_mark, M_thr hS, M_wout ha, or_true, true_or, or_false, false_or, z_b_T, z_b_F, Bool.false_eq_true, Classical.not_not, decide_eq_true_eq, z_sq, Option.bind_some, z_lits, z_n_add, z_n_mul, z_lt, z_le, z_eq, z_ne1, z_1ne, z_lt1, z_1lt, z_ltT, z_ltF, z_leT, z_leF, z_eqF, z_b_0, z_b_1, ↓reduceIte, eq_self, not_true_eq_false, not_false_eq_true, and_true, true_and, and_false, false_and, Nat.add_zero, Nat.zero_add]
  by_cases hb : b = z_n 0
  · subst hb; exact X_mark_keep H (by omega)
  rcases H.2.2.2.1 m (by omega) with ⟨h1, h2⟩ | ⟨h1, h2, h3⟩
  · obtain ⟨k1, k2, k3, k4, k5, k6⟩ := C_mk (n := n) hS hP (show m < 4 by omega)
    have hb' := eq_false hb
    have r125 : z_up I 83 0 (z_n 0) 125 m = z_n 0 := by rw [z_ups (by decide)]; exact h2
    refine z_call.no (r := z_n 0) H ?_ ?_
    · simp (disch := omega) only [f_Rs_mark, C_in, hb', k3, k4, h1, or_true, true_or, or_false, false_or, z_b_T, z_b_F, Bool.false_eq_true, Classical.not_not, decide_eq_true_eq, z_sq, Option.bind_some, z_lits, z_n_add, z_n_mul, z_lt, z_le, z_eq, z_ne1, z_1ne, z_lt1, z_1lt, z_ltT, z_ltF, z_leT, z_leF, z_eqF, z_b_0, z_b_1, ↓reduceIte, eq_self, not_true_eq_false, not_false_eq_true, and_true, true_and, and_false, false_and, Nat.add_zero, Nat.zero_add]
    · simp (disch := omega) only [f_Mo_mark, M_thr hS, M_win, hb', z_Mr hS hP, r125, or_true, true_or, or_false, false_or, z_b_T, z_b_F, Bool.false_eq_true, Classical.not_not, decide_eq_true_eq, z_sq, Option.bind_some, z_lits, z_n_add, z_n_mul, z_lt, z_le, z_eq, z_ne1, z_1ne, z_lt1, z_1lt, z_ltT, z_ltF, z_leT, z_leF, z_eqF, z_b_0, z_b_1, ↓reduceIte, eq_self, not_true_eq_false, not_false_eq_true, and_true, true_and, and_false, false_and, Nat.add_zero, Nat.zero_add]
  · exact X_mark_take H (by omega) hb h1 h2 h3
end
