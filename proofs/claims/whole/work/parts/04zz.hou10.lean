/-! HOUSE, KNOWN, LEFT: the pairs. -/
/-- a call of the class that may find the HOUSES anew, then one of the reference -/
def h_pair {T : Type} (fc fm : q_H → Option (T × q_H)) (S : z_SH) (I : z_MI) (J : z_MJ) (P : z_MP) (n : Nat × Nat) : Prop :=
  ∃ r Y I2, fc (z_h S I J P n) = some (r, z_h S Y J P n) ∧ (∀ a, (a < 22 ∨ 26 < a) → Y a = I a) ∧ h_ok Y J ∧ fm (z_h S Y J P n) = some (r, z_h S I2 J P n) ∧ z_mf Y J I2 J
def h_pairt (fc : q_H → Option (Option Int32 × q_H)) (fm : q_H → Option (Int32 × q_H)) (S : z_SH) (I : z_MI) (J : z_MJ) (P : z_MP) (n : Nat × Nat) : Prop :=
  ∃ r r2 Y n' I2, fc (z_h S I J P n) = some (r, z_h S Y J P n') ∧ (∀ a, (a < 22 ∨ 26 < a) → Y a = I a) ∧ (n.1 ≤ n'.1 ∧ n'.1 ≤ n.1 + 60 ∧ n'.2 ≤ n.2 + 3000) ∧ h_ok Y J ∧ fm (z_h S Y J P n') = some (r2, z_h S I2 J P n') ∧ z_mf Y J I2 J ∧ match r with | some x => r2 = x ∧ I2 83 0 = z_n 0 | none => I2 83 0 = z_n 1
section
variable {S : z_SH} {I : z_MI} {J : z_MJ} {P : z_MP} {K : Nat → Bool} {n : Nat × Nat}
theorem h_pair.same {T : Type} {fc fm : q_H → Option (T × q_H)} {r : T} {I2 : z_MI} (ho : h_ok I J) (h1 : fc (z_h S I J P n) = some (r, z_h S I J P n)) (h2 : fm (z_h S I J P n) = some (r, z_h S I2 J P n)) (h3 : z_mf I J I2 J) : h_pair fc fm S I J P n :=
  ⟨r, I, I2, h1, fun _ _ => rfl, ho, h2, h3⟩
theorem h_full.ok {X : z_MI} (B : z_B S I J P K n.1) (h : ∀ a, (a < 22 ∨ 26 < a) → X a = I a) (h0 : X 22 0 = z_n 0) (f : h_full I J X) : h_ok X J := Or.inl ⟨h0, h_full_c (h_B B h).2 f⟩
theorem C_hob (hS : z_St S) (hP : z_Pt P) : (∀ I J, q_gr (q_gf (z_h S I J P n) 0 8 6) = some 22) ∧ (∀ I J, q_gr (q_gf (z_h S I J P n) 0 8 3) = some 13) ∧ (∀ I J, q_ob (z_h S I J P n) 3 22 = some (z_vs I J P 22 [0, 2, 2, 2, 2])) ∧ (∀ I J, q_ob (z_h S I J P n) 2 13 = some (z_vs I J P 13 [2, 2, 2, 2, 2, 2])) ∧ ∀ I J, q_ob (z_h S I J P n) 0 8 = some (z_vs I J P 8 [2, 2, 2, 2, 2, 2, 2, 2, 2, 2, 2, 2, 2]) :=
  ⟨fun _ _ => z_gr (s_8 hS) rfl (p_8_6 hP), fun _ _ => z_gr (s_8 hS) rfl (p_8_3 hP), fun _ _ => z_ob (s_22 hS), fun _ _ => z_ob (s_13 hS), fun _ _ => z_ob (s_8 hS)⟩
set_option maxRecDepth 100000 in
set_option maxHeartbeats 4000000 in
theorem X_house (B : z_B S I J P K n.1) (ho : h_ok I J) (a b : Int32) : h_pair (f_Rs_house 8 a b) (f_Mo_house 83 a b) S I J P n := by
  have hS := B.qS
  have hP := B.qP
  have m : z_mf I J (z_up I 83 0 (z_n 0)) J := z_mf.up rfl
  have c := m.cg
  obtain ⟨o1, o2, o3, o4, o5⟩ := C_hob (n := n) hS hP
  have om := fun I J => z_ob (I := I) (J := J) (P := P) (n := n) (s_83 hS)
  rcases z_in a 23 (by omega) with ⟨x, hx, rfl⟩ | ha
  rotate_left
  · refine h_pair.same ho (r := -z_n 1) ?_ ?_ m
    · simp (disch := omega) only [f_Rs_house, o2, o4, C_pageOf_o ha, or_true, true_or, or_false, false_or, z_b_T, z_b_F, Bool.false_eq_true, Classical.not_not, decide_eq_true_eq, z_sq, Option.bind_some, z_lits, z_n_add, z_n_mul, z_lt, z_le, z_eq, z_ne1, z_1ne, z_lt1, z_1lt, z_ltT, z_ltF, z_leT, z_leF, z_eqF, z_b_0, z_b_1, ↓reduceIte, eq_self, not_true_eq_false, not_false_eq_true, and_true, true_and, and_false, false_and, Nat.add_zero, Nat.zero_add]
    · simp (disch := omega) only [f_Mo_house, M_thr hS, om, M_isThere_o hS hP ha, or_true, true_or, or_false, false_or, z_b_T, z_b_F, Bool.false_eq_true, Classical.not_not, decide_eq_true_eq, z_sq, Option.bind_some, z_lits, z_n_add, z_n_mul, z_lt, z_le, z_eq, z_ne1, z_1ne, z_lt1, z_1lt, z_ltT, z_ltF, z_leT, z_leF, z_eqF, z_b_0, z_b_1, ↓reduceIte, eq_self, not_true_eq_false, not_false_eq_true, and_true, true_and, and_false, false_and, Nat.add_zero, Nat.zero_add]
  have p1 := C_pageOf (I := I) (J := J) (n := n) hS hP (show x < 24 by omega)
  have t1 := M_isThere (n := n) (I := z_up I 83 0 (z_n 0)) (J := J) hS hP (show x < 24 by omega)
  rw [z_th_c c] at t1
  by_cases h1 : z_th I x = true
  rotate_left
  · rw [z_b_f h1] at t1
    refine h_pair.same ho (r := -z_n 1) ?_ ?_ m
    · simp (disch := omega) only [f_Rs_house, o2, o4, p1, h_pn B (show x < 24 by omega) h1, or_true, true_or, or_false, false_or, z_b_T, z_b_F, Bool.false_eq_true, Classical.not_not, decide_eq_true_eq, z_sq, Option.bind_some, z_lits, z_n_add, z_n_mul, z_lt, z_le, z_eq, z_ne1, z_1ne, z_lt1, z_1lt, z_ltT, z_ltF, z_leT, z_leF, z_eqF, z_b_0, z_b_1, ↓reduceIte, eq_self, not_true_eq_false, not_false_eq_true, and_true, true_and, and_false, false_and, Nat.add_zero, Nat.zero_add]
    · simp (disch := omega) only [f_Mo_house, M_thr hS, om, t1, or_true, true_or, or_false, false_or, z_b_T, z_b_F, Bool.false_eq_true, Classical.not_not, decide_eq_true_eq, z_sq, Option.bind_some, z_lits, z_n_add, z_n_mul, z_lt, z_le, z_eq, z_ne1, z_1ne, z_lt1, z_1lt, z_ltT, z_ltF, z_leT, z_leF, z_eqF, z_b_0, z_b_1, ↓reduceIte, eq_self, not_true_eq_false, not_false_eq_true, and_true, true_and, and_false, false_and, Nat.add_zero, Nat.zero_add]
  rw [z_b_t h1] at t1
  obtain ⟨p, e1, -, -⟩ := h_pg B (fun _ _ => rfl) (show x < 24 by omega) h1
  rcases z_in b 23 (by omega) with ⟨y, hy, rfl⟩ | hb
  rotate_left
  · refine h_pair.same ho (r := -z_n 1) ?_ ?_ m
    · simp (disch := omega) only [f_Rs_house, o2, o4, p1, e1, C_pageOf_o hb, or_true, true_or, or_false, false_or, z_b_T, z_b_F, Bool.false_eq_true, Classical.not_not, decide_eq_true_eq, z_sq, Option.bind_some, z_lits, z_n_add, z_n_mul, z_lt, z_le, z_eq, z_ne1, z_1ne, z_lt1, z_1lt, z_ltT, z_ltF, z_leT, z_leF, z_eqF, z_b_0, z_b_1, ↓reduceIte, eq_self, not_true_eq_false, not_false_eq_true, and_true, true_and, and_false, false_and, Nat.add_zero, Nat.zero_add]
    · simp (disch := omega) only [f_Mo_house, M_thr hS, om, t1, M_isThere_o hS hP hb, or_true, true_or, or_false, false_or, z_b_T, z_b_F, Bool.false_eq_true, Classical.not_not, decide_eq_true_eq, z_sq, Option.bind_some, z_lits, z_n_add, z_n_mul, z_lt, z_le, z_eq, z_ne1, z_1ne, z_lt1, z_1lt, z_ltT, z_ltF, z_leT, z_leF, z_eqF, z_b_0, z_b_1, ↓reduceIte, eq_self, not_true_eq_false, not_false_eq_true, and_true, true_and, and_false, false_and, Nat.add_zero, Nat.zero_add]
  have p2 := C_pageOf (I := I) (J := J) (n := n) hS hP (show y < 24 by omega)
  have t2 := M_isThere (n := n) (I := z_up I 83 0 (z_n 0)) (J := J) hS hP (show y < 24 by omega)
  rw [z_th_c c] at t2
  by_cases h2 : z_th I y = true
  rotate_left
  · rw [z_b_f h2] at t2
    refine h_pair.same ho (r := -z_n 1) ?_ ?_ m
    · simp (disch := omega) only [f_Rs_house, o2, o4, p1, e1, p2, h_pn B (show y < 24 by omega) h2, or_true, true_or, or_false, false_or, z_b_T, z_b_F, Bool.false_eq_true, Classical.not_not, decide_eq_true_eq, z_sq, Option.bind_some, z_lits, z_n_add, z_n_mul, z_lt, z_le, z_eq, z_ne1, z_1ne, z_lt1, z_1lt, z_ltT, z_ltF, z_leT, z_leF, z_eqF, z_b_0, z_b_1, ↓reduceIte, eq_self, not_true_eq_false, not_false_eq_true, and_true, true_and, and_false, false_and, Nat.add_zero, Nat.zero_add]
    · simp (disch := omega) only [f_Mo_house, M_thr hS, om, t1, t2, or_true, true_or, or_false, false_or, z_b_T, z_b_F, Bool.false_eq_true, Classical.not_not, decide_eq_true_eq, z_sq, Option.bind_some, z_lits, z_n_add, z_n_mul, z_lt, z_le, z_eq, z_ne1, z_1ne, z_lt1, z_1lt, z_ltT, z_ltF, z_leT, z_leF, z_eqF, z_b_0, z_b_1, ↓reduceIte, eq_self, not_true_eq_false, not_false_eq_true, and_true, true_and, and_false, false_and, Nat.add_zero, Nat.zero_add]
  rw [z_b_t h2] at t2
  obtain ⟨q, e2, -, -⟩ := h_pg B (fun _ _ => rfl) (show y < 24 by omega) h2
  by_cases hxy : x = y
  · refine h_pair.same ho (r := -z_n 1) ?_ ?_ m
    · simp (disch := omega) only [f_Rs_house, o2, o4, p1, e1, p2, e2, hxy, or_true, true_or, or_false, false_or, z_b_T, z_b_F, Bool.false_eq_true, Classical.not_not, decide_eq_true_eq, z_sq, Option.bind_some, z_lits, z_n_add, z_n_mul, z_lt, z_le, z_eq, z_ne1, z_1ne, z_lt1, z_1lt, z_ltT, z_ltF, z_leT, z_leF, z_eqF, z_b_0, z_b_1, ↓reduceIte, eq_self, not_true_eq_false, not_false_eq_true, and_true, true_and, and_false, false_and, Nat.add_zero, Nat.zero_add]
    · simp (disch := omega) only [f_Mo_house, M_thr hS, om, t1, t2, hxy, or_true, true_or, or_false, false_or, z_b_T, z_b_F, Bool.false_eq_true, Classical.not_not, decide_eq_true_eq, z_sq, Option.bind_some, z_lits, z_n_add, z_n_mul, z_lt, z_le, z_eq, z_ne1, z_1ne, z_lt1, z_1lt, z_ltT, z_ltF, z_leT, z_leF, z_eqF, z_b_0, z_b_1, ↓reduceIte, eq_self, not_true_eq_false, not_false_eq_true, and_true, true_and, and_false, false_and, Nat.add_zero, Nat.zero_add]
  obtain ⟨Y, a1, a2, a3, a4⟩ := C_refresh (n := n) B ho
  have hY := h_B B a2
  have mY : z_mf Y J (z_up Y 83 0 (z_n 0)) J := z_mf.up rfl
  have tY1 := M_isThere (n := n) (I := z_up Y 83 0 (z_n 0)) (J := J) hS hP (show x < 24 by omega)
  rw [z_th_c mY.cg, z_th_c hY.2, z_b_t h1] at tY1
  have tY2 := M_isThere (n := n) (I := z_up Y 83 0 (z_n 0)) (J := J) hS hP (show y < 24 by omega)
  rw [z_th_c mY.cg, z_th_c hY.2, z_b_t h2] at tY2
  obtain ⟨Z, b1, b2, b3⟩ := M_hous (Y := z_up Y 83 0 (z_n 0)) (JY := J) (n' := n) B hS hP (hY.2.trans mY.cg)
  have k := (h_RR I J).2.1 x y (by omega) (by omega)
  change (h_rc I J 24 x = h_rc I J 24 y ↔ h_rm I J 24 x = h_rm I J 24 y) at k
  have r1 := ((h_RR I J).1.1 x (by omega)).1
  have r2 := ((h_RR I J).1.1 y (by omega)).1
  have r3 := ((h_RR I J).1.2 x (by omega)).1
  have r4 := ((h_RR I J).1.2 y (by omega)).1
  change h_rm I J 24 x < 24 at r3
  change h_rm I J 24 y < 24 at r4
  have v1 := a4.1 x (by omega)
  have v2 := a4.1 y (by omega)
  have w1 := b3 x (by omega)
  have w2 := b3 y (by omega)
  refine ⟨z_b (h_rc I J 24 x = h_rc I J 24 y), Y, Z, ?_, a2, a4.ok B a2 a3, ?_, mY.trans (h_mf100 b2)⟩
  · by_cases e : h_rc I J 24 x = h_rc I J 24 y <;> simp (disch := omega) only [f_Rs_house, o1, o2, o3, o4, p1, e1, p2, e2, hxy, a1, z_Hor hS hP, v1, v2, e, or_true, true_or, or_false, false_or, z_b_T, z_b_F, Bool.false_eq_true, Classical.not_not, decide_eq_true_eq, z_sq, Option.bind_some, z_lits, z_n_add, z_n_mul, z_lt, z_le, z_eq, z_ne1, z_1ne, z_lt1, z_1lt, z_ltT, z_ltF, z_leT, z_leF, z_eqF, z_b_0, z_b_1, ↓reduceIte, eq_self, not_true_eq_false, not_false_eq_true, and_true, true_and, and_false, false_and, Nat.add_zero, Nat.zero_add]
  · simp only [k]
    by_cases e : h_rm I J 24 x = h_rm I J 24 y <;> simp (disch := omega) only [f_Mo_house, M_thr hS, om, tY1, tY2, hxy, b1, z_Mr hS hP, w1, w2, e, or_true, true_or, or_false, false_or, z_b_T, z_b_F, Bool.false_eq_true, Classical.not_not, decide_eq_true_eq, z_sq, Option.bind_some, z_lits, z_n_add, z_n_mul, z_lt, z_le, z_eq, z_ne1, z_1ne, z_lt1, z_1lt, z_ltT, z_ltF, z_leT, z_leF, z_eqF, z_b_0, z_b_1, ↓reduceIte, eq_self, not_true_eq_false, not_false_eq_true, and_true, true_and, and_false, false_and, Nat.add_zero, Nat.zero_add]
set_option maxRecDepth 100000 in
set_option maxHeartbeats 4000000 in
theorem C_leftOf (hS : z_St S) (hP : z_Pt P) {s w x : Nat} (hs : s < 24) (hw : w < 2) (hx : x < 2) {X : z_MI} (f : h_full I J X) : f_Ho_leftOf 22 (z_n s) (z_n w) (z_n x) (z_h S X J P n) = some (z_n (z_sum 24 fun t => h_lt I J (h_rc I J 24) s t w x), z_h S X J P n) := by
  have e := f.2.2 (s * 4 + w * 2 + x) (by omega)
  rw [show (s * 4 + w * 2 + x) / 4 = s by omega, show (s * 4 + w * 2 + x) % 4 / 2 = w by omega, show (s * 4 + w * 2 + x) % 2 = x by omega] at e
  simp (disch := omega) only [f_Ho_leftOf, z_Hor hS hP, e, or_true, true_or, or_false, false_or, z_b_T, z_b_F, Bool.false_eq_true, Classical.not_not, decide_eq_true_eq, z_sq, Option.bind_some, z_lits, z_n_add, z_n_mul, z_lt, z_le, z_eq, z_ne1, z_1ne, z_lt1, z_1lt, z_ltT, z_ltF, z_leT, z_leF, z_eqF, z_b_0, z_b_1, ↓reduceIte, eq_self, not_true_eq_false, not_false_eq_true, and_true, true_and, and_false, false_and, Nat.add_zero, Nat.zero_add]
set_option maxRecDepth 100000 in
set_option maxHeartbeats 4000000 in
theorem C_leftOfAll (B : z_B S I J P K n.1) (ho : h_ok I J) {w x : Nat} (hw : w < 2) (hx : x < 2) : ∃ Y, f_Rs_leftOfAll 8 (z_n w) (z_n x) (z_h S I J P n) = some (z_n (h_la I J w x 24), z_h S Y J P n) ∧ (∀ a, (a < 22 ∨ 26 < a) → Y a = I a) ∧ h_ok Y J := by
  have hS := B.qS
  have hP := B.qP
  obtain ⟨o1, o2, o3, o4, o5⟩ := C_hob (n := n) hS hP
  obtain ⟨Y, a1, a2, a3, a4⟩ := C_refresh (n := n) B ho
  have h := z_run (fun m s => f_Rs_leftOfAll_L16 8 (z_n w) (z_n x) m (z_n (h_la I J w x s)) (z_n s) (z_h S Y J P n)) 24 (r := some (z_n (h_la I J w x 24), z_h S Y J P n)) (by omega)
    (by
      intro m s hs
      have l := C_leftOf (n := n) hS hP hs hw hx a4
      have es : h_la I J w x (s + 1) = h_la I J w x s + z_sum 24 fun t => h_lt I J (h_rc I J 24) s t w x := rfl
      rw [es]
      simp (disch := omega) only [f_Rs_leftOfAll_L16, hs, o1, o3, l, or_true, true_or, or_false, false_or, z_b_T, z_b_F, Bool.false_eq_true, Classical.not_not, decide_eq_true_eq, z_sq, Option.bind_some, z_lits, z_n_add, z_n_mul, z_lt, z_le, z_eq, z_ne1, z_1ne, z_lt1, z_1lt, z_ltT, z_ltF, z_leT, z_leF, z_eqF, z_b_0, z_b_1, ↓reduceIte, eq_self, not_true_eq_false, not_false_eq_true, and_true, true_and, and_false, false_and, Nat.add_zero, Nat.zero_add])
    (by
      intro m
      simp (disch := omega) only [f_Rs_leftOfAll_L16, Nat.lt_irrefl, or_true, true_or, or_false, false_or, z_b_T, z_b_F, Bool.false_eq_true, Classical.not_not, decide_eq_true_eq, z_sq, Option.bind_some, z_lits, z_n_add, z_n_mul, z_lt, z_le, z_eq, z_ne1, z_1ne, z_lt1, z_1lt, z_ltT, z_ltF, z_leT, z_leF, z_eqF, z_b_0, z_b_1, ↓reduceIte, eq_self, not_true_eq_false, not_false_eq_true, and_true, true_and, and_false, false_and, Nat.add_zero, Nat.zero_add])
  have e0 : h_la I J w x 0 = 0 := rfl
  rw [e0] at h
  refine ⟨Y, ?_, a2, a4.ok B a2 a3⟩
  simp (disch := omega) only [f_Rs_leftOfAll, o1, o2, o3, a1, h, or_true, true_or, or_false, false_or, z_b_T, z_b_F, Bool.false_eq_true, Classical.not_not, decide_eq_true_eq, z_sq, Option.bind_some, z_lits, z_n_add, z_n_mul, z_lt, z_le, z_eq, z_ne1, z_1ne, z_lt1, z_1lt, z_ltT, z_ltF, z_leT, z_leF, z_eqF, z_b_0, z_b_1, ↓reduceIte, eq_self, not_true_eq_false, not_false_eq_true, and_true, true_and, and_false, false_and, Nat.add_zero, Nat.zero_add]
theorem z_o_n1 {N : Nat} : z_o (-z_n 1) N := Or.inl (by decide)
set_option maxRecDepth 100000 in
set_option maxHeartbeats 4000000 in
theorem X_left (B : z_B S I J P K n.1) (ho : h_ok I J) (a b d : Int32) : h_pair (f_Rs_left 8 a b d) (f_Mo_left 83 a b d) S I J P n := by
  have hS := B.qS
  have hP := B.qP
  have m : z_mf I J (z_up I 83 0 (z_n 0)) J := z_mf.up rfl
  have c := m.cg
  obtain ⟨o1, o2, o3, o4, o5⟩ := C_hob (n := n) hS hP
  have om := fun I J => z_ob (I := I) (J := J) (P := P) (n := n) (s_83 hS)
  rcases z_in b 1 (by omega) with ⟨w, hw, rfl⟩ | hb
  rotate_left
  · refine h_pair.same ho (r := -z_n 1) ?_ ?_ m
    · simp (disch := omega) only [f_Rs_left, C_out hb, or_true, true_or, or_false, false_or, z_b_T, z_b_F, Bool.false_eq_true, Classical.not_not, decide_eq_true_eq, z_sq, Option.bind_some, z_lits, z_n_add, z_n_mul, z_lt, z_le, z_eq, z_ne1, z_1ne, z_lt1, z_1lt, z_ltT, z_ltF, z_leT, z_leF, z_eqF, z_b_0, z_b_1, ↓reduceIte, eq_self, not_true_eq_false, not_false_eq_true, and_true, true_and, and_false, false_and, Nat.add_zero, Nat.zero_add]
    · simp (disch := omega) only [f_Mo_left, M_thr hS, M_wout hb, or_true, true_or, or_false, false_or, z_b_T, z_b_F, Bool.false_eq_true, Classical.not_not, decide_eq_true_eq, z_sq, Option.bind_some, z_lits, z_n_add, z_n_mul, z_lt, z_le, z_eq, z_ne1, z_1ne, z_lt1, z_1lt, z_ltT, z_ltF, z_leT, z_leF, z_eqF, z_b_0, z_b_1, ↓reduceIte, eq_self, not_true_eq_false, not_false_eq_true, and_true, true_and, and_false, false_and, Nat.add_zero, Nat.zero_add]
  rcases z_in d 1 (by omega) with ⟨x, hx, rfl⟩ | hd
  rotate_left
  · refine h_pair.same ho (r := -z_n 1) ?_ ?_ m
    · simp (disch := omega) only [f_Rs_left, C_in hw, C_out hd, or_true, true_or, or_false, false_or, z_b_T, z_b_F, Bool.false_eq_true, Classical.not_not, decide_eq_true_eq, z_sq, Option.bind_some, z_lits, z_n_add, z_n_mul, z_lt, z_le, z_eq, z_ne1, z_1ne, z_lt1, z_1lt, z_ltT, z_ltF, z_leT, z_leF, z_eqF, z_b_0, z_b_1, ↓reduceIte, eq_self, not_true_eq_false, not_false_eq_true, and_true, true_and, and_false, false_and, Nat.add_zero, Nat.zero_add]
    · simp (disch := omega) only [f_Mo_left, M_thr hS, M_win hw, M_wout hd, or_true, true_or, or_false, false_or, z_b_T, z_b_F, Bool.false_eq_true, Classical.not_not, decide_eq_true_eq, z_sq, Option.bind_some, z_lits, z_n_add, z_n_mul, z_lt, z_le, z_eq, z_ne1, z_1ne, z_lt1, z_1lt, z_ltT, z_ltF, z_leT, z_leF, z_eqF, z_b_0, z_b_1, ↓reduceIte, eq_self, not_true_eq_false, not_false_eq_true, and_true, true_and, and_false, false_and, Nat.add_zero, Nat.zero_add]
  have e2 : z_n 2 - z_n x = z_n (2 - x) := z_n_sub (by omega)
  by_cases ha : a = -z_n 1
  · obtain ⟨Y, a1, a2, a3⟩ := C_leftOfAll (n := n) B ho (w := w) (x := x) (by omega) (by omega)
    have hY := h_B B a2
    have mY : z_mf Y J (z_up Y 83 0 (z_n 0)) J := z_mf.up rfl
    obtain ⟨Z, b1, b2, b3⟩ := M_leftAll (Y := z_up Y 83 0 (z_n 0)) (JY := J) (n' := n) B hS hP (hY.2.trans mY.cg) (w := w) (x := x) (by omega) (by omega)
    refine ⟨z_n (h_la I J w x 24), Y, Z, ?_, a2, a3, ?_, mY.trans b2⟩
    · simp (disch := omega) only [f_Rs_left, C_in, ha, o5, a1, or_true, true_or, or_false, false_or, z_b_T, z_b_F, Bool.false_eq_true, Classical.not_not, decide_eq_true_eq, z_sq, Option.bind_some, z_lits, z_n_add, z_n_mul, z_lt, z_le, z_eq, z_ne1, z_1ne, z_lt1, z_1lt, z_ltT, z_ltF, z_leT, z_leF, z_eqF, z_b_0, z_b_1, ↓reduceIte, eq_self, not_true_eq_false, not_false_eq_true, and_true, true_and, and_false, false_and, Nat.add_zero, Nat.zero_add]
    · simp (disch := omega) only [f_Mo_left, M_thr hS, M_win, ha, om, e2, b1, or_true, true_or, or_false, false_or, z_b_T, z_b_F, Bool.false_eq_true, Classical.not_not, decide_eq_true_eq, z_sq, Option.bind_some, z_lits, z_n_add, z_n_mul, z_lt, z_le, z_eq, z_ne1, z_1ne, z_lt1, z_1lt, z_ltT, z_ltF, z_leT, z_leF, z_eqF, z_b_0, z_b_1, ↓reduceIte, eq_self, not_true_eq_false, not_false_eq_true, and_true, true_and, and_false, false_and, Nat.add_zero, Nat.zero_add]
  have ha' := eq_false ha
  rcases z_in a 23 (by omega) with ⟨s, hs, rfl⟩ | ha2
  rotate_left
  · refine h_pair.same ho (r := -z_n 1) ?_ ?_ m
    · simp (disch := omega) only [f_Rs_left, C_in, ha', o2, o4, C_pageOf_o ha2, or_true, true_or, or_false, false_or, z_b_T, z_b_F, Bool.false_eq_true, Classical.not_not, decide_eq_true_eq, z_sq, Option.bind_some, z_lits, z_n_add, z_n_mul, z_lt, z_le, z_eq, z_ne1, z_1ne, z_lt1, z_1lt, z_ltT, z_ltF, z_leT, z_leF, z_eqF, z_b_0, z_b_1, ↓reduceIte, eq_self, not_true_eq_false, not_false_eq_true, and_true, true_and, and_false, false_and, Nat.add_zero, Nat.zero_add]
    · simp (disch := omega) only [f_Mo_left, M_thr hS, M_win, ha', om, M_isThere_o hS hP ha2, or_true, true_or, or_false, false_or, z_b_T, z_b_F, Bool.false_eq_true, Classical.not_not, decide_eq_true_eq, z_sq, Option.bind_some, z_lits, z_n_add, z_n_mul, z_lt, z_le, z_eq, z_ne1, z_1ne, z_lt1, z_1lt, z_ltT, z_ltF, z_leT, z_leF, z_eqF, z_b_0, z_b_1, ↓reduceIte, eq_self, not_true_eq_false, not_false_eq_true, and_true, true_and, and_false, false_and, Nat.add_zero, Nat.zero_add]
  have p1 := C_pageOf (I := I) (J := J) (n := n) hS hP (show s < 24 by omega)
  have t1 := M_isThere (n := n) (I := z_up I 83 0 (z_n 0)) (J := J) hS hP (show s < 24 by omega)
  rw [z_th_c c] at t1
  by_cases h1 : z_th I s = true
  rotate_left
  · rw [z_b_f h1] at t1
    refine h_pair.same ho (r := -z_n 1) ?_ ?_ m
    · simp (disch := omega) only [f_Rs_left, C_in, ha', o2, o4, p1, h_pn B (show s < 24 by omega) h1, or_true, true_or, or_false, false_or, z_b_T, z_b_F, Bool.false_eq_true, Classical.not_not, decide_eq_true_eq, z_sq, Option.bind_some, z_lits, z_n_add, z_n_mul, z_lt, z_le, z_eq, z_ne1, z_1ne, z_lt1, z_1lt, z_ltT, z_ltF, z_leT, z_leF, z_eqF, z_b_0, z_b_1, ↓reduceIte, eq_self, not_true_eq_false, not_false_eq_true, and_true, true_and, and_false, false_and, Nat.add_zero, Nat.zero_add]
    · simp (disch := omega) only [f_Mo_left, M_thr hS, M_win, ha', om, t1, or_true, true_or, or_false, false_or, z_b_T, z_b_F, Bool.false_eq_true, Classical.not_not, decide_eq_true_eq, z_sq, Option.bind_some, z_lits, z_n_add, z_n_mul, z_lt, z_le, z_eq, z_ne1, z_1ne, z_lt1, z_1lt, z_ltT, z_ltF, z_leT, z_leF, z_eqF, z_b_0, z_b_1, ↓reduceIte, eq_self, not_true_eq_false, not_false_eq_true, and_true, true_and, and_false, false_and, Nat.add_zero, Nat.zero_add]
  obtain ⟨p, e1, -, -⟩ := h_pg B (fun _ _ => rfl) (show s < 24 by omega) h1
  obtain ⟨Y, a1, a2, a3, a4⟩ := C_refresh (n := n) B ho
  have hY := h_B B a2
  have mY : z_mf Y J (z_up Y 83 0 (z_n 0)) J := z_mf.up rfl
  have tY1 := M_isThere (n := n) (I := z_up Y 83 0 (z_n 0)) (J := J) hS hP (show s < 24 by omega)
  rw [z_th_c mY.cg, z_th_c hY.2, z_b_t h1] at tY1
  obtain ⟨Z, b1, b2, b3⟩ := M_hous (Y := z_up Y 83 0 (z_n 0)) (JY := J) (n' := n) B hS hP (hY.2.trans mY.cg)
  have mZ := mY.trans (h_mf100 (JY := J) b2)
  obtain ⟨W, d1, d2, d3, d4⟩ := M_leftIn (Y := Z) (JY := J) (n' := n) B hS hP (hY.2.trans mZ.cg) b3 (w := w) (x := x) (show s < 24 by omega) h1 (by omega) (by omega)
  have l := C_leftOf (n := n) hS hP (s := s) (w := w) (x := x) (by omega) (by omega) (by omega) a4
  refine ⟨z_n (z_sum 24 fun t => h_lt I J (h_rc I J 24) s t w x), Y, W, ?_, a2, a4.ok B a2 a3, ?_, mZ.trans d2⟩
  · simp (disch := omega) only [f_Rs_left, C_in, ha', o1, o2, o3, o4, p1, e1, a1, l, or_true, true_or, or_false, false_or, z_b_T, z_b_F, Bool.false_eq_true, Classical.not_not, decide_eq_true_eq, z_sq, Option.bind_some, z_lits, z_n_add, z_n_mul, z_lt, z_le, z_eq, z_ne1, z_1ne, z_lt1, z_1lt, z_ltT, z_ltF, z_leT, z_leF, z_eqF, z_b_0, z_b_1, ↓reduceIte, eq_self, not_true_eq_false, not_false_eq_true, and_true, true_and, and_false, false_and, Nat.add_zero, Nat.zero_add]
  · simp (disch := omega) only [f_Mo_left, M_thr hS, M_win, ha', om, tY1, e2, b1, d1, or_true, true_or, or_false, false_or, z_b_T, z_b_F, Bool.false_eq_true, Classical.not_not, decide_eq_true_eq, z_sq, Option.bind_some, z_lits, z_n_add, z_n_mul, z_lt, z_le, z_eq, z_ne1, z_1ne, z_lt1, z_1lt, z_ltT, z_ltF, z_leT, z_leF, z_eqF, z_b_0, z_b_1, ↓reduceIte, eq_self, not_true_eq_false, not_false_eq_true, and_true, true_and, and_false, false_and, Nat.add_zero, Nat.zero_add]
end
