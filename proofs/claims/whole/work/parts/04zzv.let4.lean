/-! LETS, FAILS, FITTEST, APART: the calls. -/
section
variable {S : z_SH} {I : z_MI} {J : z_MJ} {P : z_MP} {K : Nat → Bool} {n : Nat × Nat}
theorem l_R.refl (K : Nat → Bool) (I : z_MI) : l_R K I I := fun _ _ => rfl
/-- the class works in rows of its own, the reference in its own -/
theorem l_call {T : Type} {fc fm : q_H → Option (T × q_H)} (H : Inv S I J P K n.1) {r : T} {X Y : z_MI} (h1 : fc (z_h S I J P n) = some (r, z_h S X J P n)) (hX : l_R K I X) (h2 : fm (z_h S X J P n) = some (r, z_h S Y J P n)) (hY : l_Q (z_up X 83 0 (z_n 0)) Y) : z_call fc fm S I J P n := by
  refine ⟨r, S, X, J, P, n, K, Y, J, h1, h2, ⟨by omega, by omega, by omega⟩, ?_⟩
  have H1 : Inv S X J P K n.1 := H.ag (hX.ag _) (Nat.le_refl _)
  exact (H1.mf (z_mf.up rfl)).mf hY.mf
theorem C_laws (hS : z_St S) (hP : z_Pt P) {k q : Nat} (hk : k < 4) (h : P 34 k = some q) : (∀ I J, q_gr (q_gf (z_h S I J P n) 0 8 8) = some 34) ∧ ∀ I J, q_gr (q_ga (z_h S I J P n) 27 34 (z_n k)) = some q :=
  ⟨fun _ _ => z_gr (s_8 hS) rfl (p_8_8 hP), fun _ _ => z_gra (s_34 hS) (by omega) (z_rpl hk) h⟩
set_option maxRecDepth 100000 in
set_option maxHeartbeats 4000000 in
theorem X_lets (H : Inv S I J P K n.1) (a b d : Int32) : z_call (f_Rs_lets 8 a b d) (f_Mo_lets 83 a b d) S I J P n := by
  have B := H.1
  have hS := B.qS
  have hP := B.qP
  obtain ⟨o1, o2, o3, o4, o5⟩ := C_hob (n := n) hS hP
  have om := fun I J => z_ob (I := I) (J := J) (P := P) (n := n) (s_83 hS)
  have f9 : ∀ I J, q_gr (q_gf (z_h S I J P n) 0 8 9) = some 35 := fun _ _ => z_gr (s_8 hS) rfl (p_8_9 hP)
  have cu : z_cg I J (z_up I 83 0 (z_n 0)) J := (z_mf.up rfl).cg
  rcases z_in a 3 (by omega) with ⟨k, hk, rfl⟩ | ha
  rotate_left
  · have key : ∃ o, f_Rs_pageOfWife 8 b d (z_h S I J P n) = some (o, z_h S I J P n) := by
      rcases z_in b 23 (by omega) with ⟨s, hs, rfl⟩ | hb
      · rcases z_in d 11 (by omega) with ⟨l, hl, rfl⟩ | hd
        · exact ⟨_, C_pow B (by omega) hl⟩
        · exact ⟨_, C_pow_o B (by omega) hd⟩
      · exact ⟨_, C_pow_oo hS hP hb⟩
    obtain ⟨o, key⟩ := key
    refine z_call.no (r := -z_n 1) H ?_ ?_
    · simp (disch := omega) only [f_Rs_lets, o5, key, C_out ha, or_true, true_or, or_false, false_or, z_b_T, z_b_F, Bool.false_eq_true, Classical.not_not, decide_eq_true_eq, z_sq, Option.bind_some, z_lits, z_n_add, z_n_mul, z_lt, z_le, z_eq, z_ne1, z_1ne, z_lt1, z_1lt, z_ltT, z_ltF, z_leT, z_leF, z_eqF, z_b_0, z_b_1, ↓reduceIte, eq_self, not_true_eq_false, not_false_eq_true, and_true, true_and, and_false, false_and, Nat.add_zero, Nat.zero_add]
    · simp (disch := omega) only [f_Mo_lets, M_thr hS, M_isTable_o ha, or_true, true_or, or_false, false_or, z_b_T, z_b_F, Bool.false_eq_true, Classical.not_not, decide_eq_true_eq, z_sq, Option.bind_some, z_lits, z_n_add, z_n_mul, z_lt, z_le, z_eq, z_ne1, z_1ne, z_lt1, z_1lt, z_ltT, z_ltF, z_leT, z_leF, z_eqF, z_b_0, z_b_1, ↓reduceIte, eq_self, not_true_eq_false, not_false_eq_true, and_true, true_and, and_false, false_and, Nat.add_zero, Nat.zero_add]
  rcases z_in b 23 (by omega) with ⟨s, hs, rfl⟩ | hb
  rotate_left
  · refine z_call.no (r := -z_n 1) H ?_ ?_
    · simp (disch := omega) only [f_Rs_lets, o5, C_pow_oo hS hP hb, C_in hk, or_true, true_or, or_false, false_or, z_b_T, z_b_F, Bool.false_eq_true, Classical.not_not, decide_eq_true_eq, z_sq, Option.bind_some, z_lits, z_n_add, z_n_mul, z_lt, z_le, z_eq, z_ne1, z_1ne, z_lt1, z_1lt, z_ltT, z_ltF, z_leT, z_leF, z_eqF, z_b_0, z_b_1, ↓reduceIte, eq_self, not_true_eq_false, not_false_eq_true, and_true, true_and, and_false, false_and, Nat.add_zero, Nat.zero_add]
    · simp (disch := omega) only [f_Mo_lets, M_thr hS, M_isTable hk, om, M_isWife_oo hS hP hb, or_true, true_or, or_false, false_or, z_b_T, z_b_F, Bool.false_eq_true, Classical.not_not, decide_eq_true_eq, z_sq, Option.bind_some, z_lits, z_n_add, z_n_mul, z_lt, z_le, z_eq, z_ne1, z_1ne, z_lt1, z_1lt, z_ltT, z_ltF, z_leT, z_leF, z_eqF, z_b_0, z_b_1, ↓reduceIte, eq_self, not_true_eq_false, not_false_eq_true, and_true, true_and, and_false, false_and, Nat.add_zero, Nat.zero_add]
  rcases z_in d 11 (by omega) with ⟨l, hl, rfl⟩ | hd
  rotate_left
  · refine z_call.no (r := -z_n 1) H ?_ ?_
    · simp (disch := omega) only [f_Rs_lets, o5, C_pow_o B (show s < 24 by omega) hd, C_in hk, or_true, true_or, or_false, false_or, z_b_T, z_b_F, Bool.false_eq_true, Classical.not_not, decide_eq_true_eq, z_sq, Option.bind_some, z_lits, z_n_add, z_n_mul, z_lt, z_le, z_eq, z_ne1, z_1ne, z_lt1, z_1lt, z_ltT, z_ltF, z_leT, z_leF, z_eqF, z_b_0, z_b_1, ↓reduceIte, eq_self, not_true_eq_false, not_false_eq_true, and_true, true_and, and_false, false_and, Nat.add_zero, Nat.zero_add]
    · simp (disch := omega) only [f_Mo_lets, M_thr hS, M_isTable hk, om, M_isWife_o hS hP (z_lL_c cu B.qL) (show s < 24 by omega) hd, or_true, true_or, or_false, false_or, z_b_T, z_b_F, Bool.false_eq_true, Classical.not_not, decide_eq_true_eq, z_sq, Option.bind_some, z_lits, z_n_add, z_n_mul, z_lt, z_le, z_eq, z_ne1, z_1ne, z_lt1, z_1lt, z_ltT, z_ltF, z_leT, z_leF, z_eqF, z_b_0, z_b_1, ↓reduceIte, eq_self, not_true_eq_false, not_false_eq_true, and_true, true_and, and_false, false_and, Nat.add_zero, Nat.zero_add]
  have pw := C_pow (n := n) B (show s < 24 by omega) hl
  have iw := M_iw (n' := n) B hS hP cu (show s < 24 by omega) hl
  by_cases wf : z_wf I s l = true
  rotate_left
  · rw [if_neg wf] at pw
    rw [z_b_f wf] at iw
    refine z_call.no (r := -z_n 1) H ?_ ?_
    · simp (disch := omega) only [f_Rs_lets, o5, pw, C_in hk, or_true, true_or, or_false, false_or, z_b_T, z_b_F, Bool.false_eq_true, Classical.not_not, decide_eq_true_eq, z_sq, Option.bind_some, z_lits, z_n_add, z_n_mul, z_lt, z_le, z_eq, z_ne1, z_1ne, z_lt1, z_1lt, z_ltT, z_ltF, z_leT, z_leF, z_eqF, z_b_0, z_b_1, ↓reduceIte, eq_self, not_true_eq_false, not_false_eq_true, and_true, true_and, and_false, false_and, Nat.add_zero, Nat.zero_add]
    · simp (disch := omega) only [f_Mo_lets, M_thr hS, M_isTable hk, om, iw, or_true, true_or, or_false, false_or, z_b_T, z_b_F, Bool.false_eq_true, Classical.not_not, decide_eq_true_eq, z_sq, Option.bind_some, z_lits, z_n_add, z_n_mul, z_lt, z_le, z_eq, z_ne1, z_1ne, z_lt1, z_1lt, z_ltT, z_ltF, z_leT, z_leF, z_eqF, z_b_0, z_b_1, ↓reduceIte, eq_self, not_true_eq_false, not_false_eq_true, and_true, true_and, and_false, false_and, Nat.add_zero, Nat.zero_add]
  rw [if_pos wf] at pw
  obtain ⟨y, y1, y2, y3, y4⟩ := l_use H (show k < 4 by omega)
  obtain ⟨l1, l2⟩ := C_laws (n := n) hS hP (show k < 4 by omega) y1
  have ob2 : ∀ I J, q_ob (z_h S I J P n) 6 y.1 = some (z_vs I J P y.1 [2, 0, 0, 2]) := fun _ _ => z_ob y2
  obtain ⟨p, g1, X3, g2, g3, g4⟩ := C_fillX B (l_R.refl K I) (show s < 24 by omega) wf
  rw [g1] at pw
  obtain ⟨X4, i1, i2, i3⟩ := y3 X3 (l_v I J s l) g3 g4
  obtain ⟨BX, cX⟩ := i2.B B
  have cX' : z_cg I J (z_up X4 83 0 (z_n 0)) J := cX.trans (z_mf.up rfl).cg
  have iw2 := M_iw (n' := n) B hS hP cX' (show s < 24 by omega) hl
  rw [z_b_t wf] at iw2
  obtain ⟨Z1, j1, j2⟩ := M_fill (n := n) B cX' (k := k) (show s < 24 by omega) wf y4
  change f_Mo_isLet 83 (z_n k) (z_n s) (z_n l) (z_h S (z_up X4 83 0 (z_n 0)) J P n) = some (z_b (y.2 (l_v I J s l) = true), z_h S Z1 J P n) at j1
  refine l_call H (r := z_b (y.2 (l_v I J s l) = true)) (X := X4) (Y := Z1) ?_ i2 ?_ j2
  · by_cases q : y.2 (l_v I J s l) = true
    · rw [z_b_t q] at i1 ⊢
      simp (disch := omega) only [f_Rs_lets, o5, pw, C_in hk, g2, l1, l2, f9, ob2, i1, or_true, true_or, or_false, false_or, z_b_T, z_b_F, Bool.false_eq_true, Classical.not_not, decide_eq_true_eq, z_sq, Option.bind_some, z_lits, z_n_add, z_n_mul, z_lt, z_le, z_eq, z_ne1, z_1ne, z_lt1, z_1lt, z_ltT, z_ltF, z_leT, z_leF, z_eqF, z_b_0, z_b_1, ↓reduceIte, eq_self, not_true_eq_false, not_false_eq_true, and_true, true_and, and_false, false_and, Nat.add_zero, Nat.zero_add]
    · rw [z_b_f q] at i1 ⊢
      simp (disch := omega) only [f_Rs_lets, o5, pw, C_in hk, g2, l1, l2, f9, ob2, i1, or_true, true_or, or_false, false_or, z_b_T, z_b_F, Bool.false_eq_true, Classical.not_not, decide_eq_true_eq, z_sq, Option.bind_some, z_lits, z_n_add, z_n_mul, z_lt, z_le, z_eq, z_ne1, z_1ne, z_lt1, z_1lt, z_ltT, z_ltF, z_leT, z_leF, z_eqF, z_b_0, z_b_1, ↓reduceIte, eq_self, not_true_eq_false, not_false_eq_true, and_true, true_and, and_false, false_and, Nat.add_zero, Nat.zero_add]
  · by_cases q : y.2 (l_v I J s l) = true
    · rw [z_b_t q] at j1 ⊢
      simp (disch := omega) only [f_Mo_lets, M_thr hS, M_isTable hk, om, iw2, j1, or_true, true_or, or_false, false_or, z_b_T, z_b_F, Bool.false_eq_true, Classical.not_not, decide_eq_true_eq, z_sq, Option.bind_some, z_lits, z_n_add, z_n_mul, z_lt, z_le, z_eq, z_ne1, z_1ne, z_lt1, z_1lt, z_ltT, z_ltF, z_leT, z_leF, z_eqF, z_b_0, z_b_1, ↓reduceIte, eq_self, not_true_eq_false, not_false_eq_true, and_true, true_and, and_false, false_and, Nat.add_zero, Nat.zero_add]
    · rw [z_b_f q] at j1 ⊢
      simp (disch := omega) only [f_Mo_lets, M_thr hS, M_isTable hk, om, iw2, j1, or_true, true_or, or_false, false_or, z_b_T, z_b_F, Bool.false_eq_true, Classical.not_not, decide_eq_true_eq, z_sq, Option.bind_some, z_lits, z_n_add, z_n_mul, z_lt, z_le, z_eq, z_ne1, z_1ne, z_lt1, z_1lt, z_ltT, z_ltF, z_leT, z_leF, z_eqF, z_b_0, z_b_1, ↓reduceIte, eq_self, not_true_eq_false, not_false_eq_true, and_true, true_and, and_false, false_and, Nat.add_zero, Nat.zero_add]
set_option maxRecDepth 100000 in
set_option maxHeartbeats 4000000 in
theorem X_fails (H : Inv S I J P K n.1) (a : Int32) : z_call (f_Rs_fails 8 a) (f_Mo_fails 83 a) S I J P n := by
  have B := H.1
  have hS := B.qS
  have hP := B.qP
  obtain ⟨o1, o2, o3, o4, o5⟩ := C_hob (n := n) hS hP
  have om := fun I J => z_ob (I := I) (J := J) (P := P) (n := n) (s_83 hS)
  rcases z_in a 3 (by omega) with ⟨k, hk, rfl⟩ | ha
  rotate_left
  · refine z_call.no (r := -z_n 1) H ?_ ?_
    · simp (disch := omega) only [f_Rs_fails, C_out ha, or_true, true_or, or_false, false_or, z_b_T, z_b_F, Bool.false_eq_true, Classical.not_not, decide_eq_true_eq, z_sq, Option.bind_some, z_lits, z_n_add, z_n_mul, z_lt, z_le, z_eq, z_ne1, z_1ne, z_lt1, z_1lt, z_ltT, z_ltF, z_leT, z_leF, z_eqF, z_b_0, z_b_1, ↓reduceIte, eq_self, not_true_eq_false, not_false_eq_true, and_true, true_and, and_false, false_and, Nat.add_zero, Nat.zero_add]
    · simp (disch := omega) only [f_Mo_fails, M_thr hS, M_isTable_o ha, or_true, true_or, or_false, false_or, z_b_T, z_b_F, Bool.false_eq_true, Classical.not_not, decide_eq_true_eq, z_sq, Option.bind_some, z_lits, z_n_add, z_n_mul, z_lt, z_le, z_eq, z_ne1, z_1ne, z_lt1, z_1lt, z_ltT, z_ltF, z_leT, z_leF, z_eqF, z_b_0, z_b_1, ↓reduceIte, eq_self, not_true_eq_false, not_false_eq_true, and_true, true_and, and_false, false_and, Nat.add_zero, Nat.zero_add]
  obtain ⟨y, hy⟩ := l_use H (show k < 4 by omega)
  obtain ⟨l1, l2⟩ := C_laws (n := n) hS hP (show k < 4 by omega) hy.1
  obtain ⟨X, a1, a2⟩ := C_unlet (n := n) (w1 := fun _ => true) B (Or.inl ⟨rfl, fun _ => rfl⟩) hy.2.1 hy.2.2.1 (l_R.refl K I)
  obtain ⟨BX, cX⟩ := a2.B B
  obtain ⟨Z, b1, b2⟩ := M_unlet (n := n) B hy hy ⟨by omega, by omega⟩ (cX.trans (z_mf.up rfl).cg : z_cg I J (z_up X 83 0 (z_n 0)) J)
  rw [if_pos rfl] at b1
  refine l_call H (r := z_n (l_un I J (fun _ => true) y.2 24)) (X := X) (Y := Z) ?_ a2 ?_ b2
  · simp (disch := omega) only [f_Rs_fails, C_in hk, l1, l2, o5, a1, or_true, true_or, or_false, false_or, z_b_T, z_b_F, Bool.false_eq_true, Classical.not_not, decide_eq_true_eq, z_sq, Option.bind_some, z_lits, z_n_add, z_n_mul, z_lt, z_le, z_eq, z_ne1, z_1ne, z_lt1, z_1lt, z_ltT, z_ltF, z_leT, z_leF, z_eqF, z_b_0, z_b_1, ↓reduceIte, eq_self, not_true_eq_false, not_false_eq_true, and_true, true_and, and_false, false_and, Nat.add_zero, Nat.zero_add]
  · simp (disch := omega) only [f_Mo_fails, M_thr hS, M_isTable hk, om, b1, or_true, true_or, or_false, false_or, z_b_T, z_b_F, Bool.false_eq_true, Classical.not_not, decide_eq_true_eq, z_sq, Option.bind_some, z_lits, z_n_add, z_n_mul, z_lt, z_le, z_eq, z_ne1, z_1ne, z_lt1, z_1lt, z_ltT, z_ltF, z_leT, z_leF, z_eqF, z_b_0, z_b_1, ↓reduceIte, eq_self, not_true_eq_false, not_false_eq_true, and_true, true_and, and_false, false_and, Nat.add_zero, Nat.zero_add]
set_option maxRecDepth 100000 in
set_option maxHeartbeats 4000000 in
theorem X_apart (H : Inv S I J P K n.1) (a b : Int32) : z_call (f_Rs_apart 8 a b) (f_Mo_apart 83 a b) S I J P n := by
  have B := H.1
  have hS := B.qS
  have hP := B.qP
  obtain ⟨o1, o2, o3, o4, o5⟩ := C_hob (n := n) hS hP
  have om := fun I J => z_ob (I := I) (J := J) (P := P) (n := n) (s_83 hS)
  rcases z_in a 3 (by omega) with ⟨k, hk, rfl⟩ | ha
  rotate_left
  · refine z_call.no (r := -z_n 1) H ?_ ?_
    · simp (disch := omega) only [f_Rs_apart, C_out ha, or_true, true_or, or_false, false_or, z_b_T, z_b_F, Bool.false_eq_true, Classical.not_not, decide_eq_true_eq, z_sq, Option.bind_some, z_lits, z_n_add, z_n_mul, z_lt, z_le, z_eq, z_ne1, z_1ne, z_lt1, z_1lt, z_ltT, z_ltF, z_leT, z_leF, z_eqF, z_b_0, z_b_1, ↓reduceIte, eq_self, not_true_eq_false, not_false_eq_true, and_true, true_and, and_false, false_and, Nat.add_zero, Nat.zero_add]
    · simp (disch := omega) only [f_Mo_apart, M_thr hS, M_isTable_o ha, or_true, true_or, or_false, false_or, z_b_T, z_b_F, Bool.false_eq_true, Classical.not_not, decide_eq_true_eq, z_sq, Option.bind_some, z_lits, z_n_add, z_n_mul, z_lt, z_le, z_eq, z_ne1, z_1ne, z_lt1, z_1lt, z_ltT, z_ltF, z_leT, z_leF, z_eqF, z_b_0, z_b_1, ↓reduceIte, eq_self, not_true_eq_false, not_false_eq_true, and_true, true_and, and_false, false_and, Nat.add_zero, Nat.zero_add]
  rcases z_in b 3 (by omega) with ⟨e, he, rfl⟩ | hb
  rotate_left
  · refine z_call.no (r := -z_n 1) H ?_ ?_
    · simp (disch := omega) only [f_Rs_apart, C_in hk, C_out hb, or_true, true_or, or_false, false_or, z_b_T, z_b_F, Bool.false_eq_true, Classical.not_not, decide_eq_true_eq, z_sq, Option.bind_some, z_lits, z_n_add, z_n_mul, z_lt, z_le, z_eq, z_ne1, z_1ne, z_lt1, z_1lt, z_ltT, z_ltF, z_leT, z_leF, z_eqF, z_b_0, z_b_1, ↓reduceIte, eq_self, not_true_eq_false, not_false_eq_true, and_true, true_and, and_false, false_and, Nat.add_zero, Nat.zero_add]
    · simp (disch := omega) only [f_Mo_apart, M_thr hS, M_isTable hk, M_isTable_o hb, or_true, true_or, or_false, false_or, z_b_T, z_b_F, Bool.false_eq_true, Classical.not_not, decide_eq_true_eq, z_sq, Option.bind_some, z_lits, z_n_add, z_n_mul, z_lt, z_le, z_eq, z_ne1, z_1ne, z_lt1, z_1lt, z_ltT, z_ltF, z_leT, z_leF, z_eqF, z_b_0, z_b_1, ↓reduceIte, eq_self, not_true_eq_false, not_false_eq_true, and_true, true_and, and_false, false_and, Nat.add_zero, Nat.zero_add]
  obtain ⟨y, hy⟩ := l_use H (show k < 4 by omega)
  obtain ⟨z, hz⟩ := l_use H (show e < 4 by omega)
  obtain ⟨l1, l2⟩ := C_laws (n := n) hS hP (show k < 4 by omega) hy.1
  obtain ⟨l3, l4⟩ := C_laws (n := n) hS hP (show e < 4 by omega) hz.1
  obtain ⟨X, a1, a2⟩ := C_unlet (n := n) (w1 := y.2) B (Or.inr ⟨y.1, rfl, hy.2.1, hy.2.2.1⟩) hz.2.1 hz.2.2.1 (l_R.refl K I)
  obtain ⟨BX, cX⟩ := a2.B B
  by_cases q : k = e
  · subst q
    have ez : z.1 = y.1 := (Option.some.inj (hy.1.symm.trans hz.1)).symm
    obtain ⟨X, a1, a2⟩ := C_unlet (n := n) (w1 := y.2) B (Or.inr ⟨y.1, rfl, hy.2.1, hy.2.2.1⟩) hy.2.1 hy.2.2.1 (l_R.refl K I)
    have e0 : l_un I J y.2 y.2 24 = 0 := by
      unfold l_un
      rw [z_sum_eq (g := fun _ => 0) (fun s _ => by
        split
        · rw [z_sum_eq (f := l_u1 I J y.2 y.2 s) (g := fun _ => 0) (fun l _ => by unfold l_u1; exact if_neg (fun q => q.2.2 q.2.1))]
          have := z_sum_le (fun _ => 0) 0 (z_ln I s) (fun _ _ => Nat.le_refl _)
          omega
        · rfl)]
      have := z_sum_le (fun _ => 0) 0 24 (fun _ _ => Nat.le_refl _)
      omega
    rw [e0] at a1
    refine l_call H (r := z_n 0) (X := X) (Y := z_up X 83 0 (z_n 0)) ?_ a2 ?_ (fun _ _ => rfl)
    · simp (disch := omega) only [f_Rs_apart, C_in hk, l1, l2, o5, a1, or_true, true_or, or_false, false_or, z_b_T, z_b_F, Bool.false_eq_true, Classical.not_not, decide_eq_true_eq, z_sq, Option.bind_some, z_lits, z_n_add, z_n_mul, z_lt, z_le, z_eq, z_ne1, z_1ne, z_lt1, z_1lt, z_ltT, z_ltF, z_leT, z_leF, z_eqF, z_b_0, z_b_1, ↓reduceIte, eq_self, not_true_eq_false, not_false_eq_true, and_true, true_and, and_false, false_and, Nat.add_zero, Nat.zero_add]
    · simp (disch := omega) only [f_Mo_apart, M_thr hS, M_isTable hk, or_true, true_or, or_false, false_or, z_b_T, z_b_F, Bool.false_eq_true, Classical.not_not, decide_eq_true_eq, z_sq, Option.bind_some, z_lits, z_n_add, z_n_mul, z_lt, z_le, z_eq, z_ne1, z_1ne, z_lt1, z_1lt, z_ltT, z_ltF, z_leT, z_leF, z_eqF, z_b_0, z_b_1, ↓reduceIte, eq_self, not_true_eq_false, not_false_eq_true, and_true, true_and, and_false, false_and, Nat.add_zero, Nat.zero_add]
  · obtain ⟨Z, b1, b2⟩ := M_unlet (n := n) B hz hy ⟨by omega, by omega⟩ (cX.trans (z_mf.up rfl).cg : z_cg I J (z_up X 83 0 (z_n 0)) J)
    rw [if_neg q] at b1
    refine l_call H (r := z_n (l_un I J y.2 z.2 24)) (X := X) (Y := Z) ?_ a2 ?_ b2
    · simp (disch := omega) only [f_Rs_apart, C_in, l1, l2, l4, o5, a1, or_true, true_or, or_false, false_or, z_b_T, z_b_F, Bool.false_eq_true, Classical.not_not, decide_eq_true_eq, z_sq, Option.bind_some, z_lits, z_n_add, z_n_mul, z_lt, z_le, z_eq, z_ne1, z_1ne, z_lt1, z_1lt, z_ltT, z_ltF, z_leT, z_leF, z_eqF, z_b_0, z_b_1, ↓reduceIte, eq_self, not_true_eq_false, not_false_eq_true, and_true, true_and, and_false, false_and, Nat.add_zero, Nat.zero_add]
    · simp (disch := omega) only [f_Mo_apart, M_thr hS, M_isTable, q, om, b1, or_true, true_or, or_false, false_or, z_b_T, z_b_F, Bool.false_eq_true, Classical.not_not, decide_eq_true_eq, z_sq, Option.bind_some, z_lits, z_n_add, z_n_mul, z_lt, z_le, z_eq, z_ne1, z_1ne, z_lt1, z_1lt, z_ltT, z_ltF, z_leT, z_leF, z_eqF, z_b_0, z_b_1, ↓reduceIte, eq_self, not_true_eq_false, not_false_eq_true, and_true, true_and, and_false, false_and, Nat.add_zero, Nat.zero_add]
/-- the fittest so far -/
def l_ft (c : Nat → Nat) : Nat → Nat
  | 0 => 0
  | i + 1 => if c (i + 1) < c (l_ft c i) then i + 1 else l_ft c i
theorem l_ft_le (c : Nat → Nat) : ∀ i, l_ft c i ≤ i
  | 0 => Nat.le_refl _
  | i + 1 => by
    have := l_ft_le c i
    rw [l_ft]
    split <;> omega
set_option maxRecDepth 100000 in
set_option maxHeartbeats 4000000 in
theorem X_fittest (H : Inv S I J P K n.1) : z_call (f_Rs_fittest 8) (f_Mo_fittest 83) S I J P n := by
  have B := H.1
  have hS := B.qS
  have hP := B.qP
  obtain ⟨o1, o2, o3, o4, o5⟩ := C_hob (n := n) hS hP
  have om := fun I J => z_ob (I := I) (J := J) (P := P) (n := n) (s_83 hS)
  have hex : ∀ k, ∃ y : Nat × (l_V → Bool), k < 4 → l_P S I J P K n k y := by
    intro k
    by_cases hk : k < 4
    · obtain ⟨y, hy⟩ := l_use H hk
      exact ⟨y, fun _ => hy⟩
    · exact ⟨(0, fun _ => false), fun h => absurd h hk⟩
  obtain ⟨f, hf⟩ := Classical.axiomOfChoice hex
  have le := fun k => l_un_le B (fun _ => true) (f k).2
  have cc : ∀ X, l_R K I X → ∀ k, k < 4 → ∃ X', f_Rs_countUnlet 8 none (f k).1 (z_h S X J P n) = some (z_n (l_un I J (fun _ => true) (f k).2 24), z_h S X' J P n) ∧ l_R K I X' :=
    fun X hX k hk => C_unlet (n := n) (w1 := fun _ => true) B (Or.inl ⟨rfl, fun _ => rfl⟩) (hf k hk).2.1 (hf k hk).2.2.1 hX
  have mm : ∀ Y, z_cg I J Y J → ∀ k, k < 4 → ∃ Z, f_Mo_failsOf 83 (z_n k) (z_n k) (z_h S Y J P n) = some (z_n (l_un I J (fun _ => true) (f k).2 24), z_h S Z J P n) ∧ l_Q Y Z := by
    intro Y c k hk
    have := M_unlet (n := n) B (hf k hk) (hf k hk) ⟨hk, hk⟩ c
    rw [if_pos rfl] at this
    exact this
  have ll := fun k hk => C_laws (n := n) hS hP hk (hf k hk).1
  generalize hcnt : (fun k => l_un I J (fun _ => true) (f k).2 24) = cnt
  have hcnt' : ∀ k, l_un I J (fun _ => true) (f k).2 24 = cnt k := fun k => by rw [← hcnt]
  simp only [hcnt'] at le cc mm
  obtain ⟨X0, a1, a2⟩ := cc I (l_R.refl K I) 0 (by omega)
  have fl := l_ft_le cnt
  obtain ⟨X, b1, b2⟩ : ∃ X, f_Rs_fittest_L16 8 q_FU (z_n 0) (z_n (cnt 0)) (z_n 1) (z_h S X0 J P n) = some (z_n (l_ft cnt 3), z_h S X J P n) ∧ l_R K I X :=
    z_loopI (fun m i (X : z_MI) => f_Rs_fittest_L16 8 m (z_n (l_ft cnt (i - 1))) (z_n (cnt (l_ft cnt (i - 1)))) (z_n i) (z_h S X J P n)) 4
    (fun i X => 1 ≤ i ∧ l_R K I X)
    (fun r => ∃ X, r = some (z_n (l_ft cnt 3), z_h S X J P n) ∧ l_R K I X)
    (by
      intro m i X hi ⟨h1, hX⟩
      obtain ⟨X', e1, e2⟩ := cc X hX i hi
      obtain ⟨l1, l2⟩ := ll i hi
      refine ⟨X', ⟨by omega, e2⟩, ?_⟩
      obtain ⟨j, rfl⟩ : ∃ j, i = j + 1 := ⟨i - 1, by omega⟩
      rw [Nat.add_sub_cancel, Nat.add_sub_cancel, l_ft]
      have q1 := le (j + 1)
      have q2 := le (l_ft cnt j)
      by_cases q : cnt (j + 1) < cnt (l_ft cnt j)
      · rw [if_pos q]
        simp (disch := omega) only [f_Rs_fittest_L16, hi, l1, l2, o5, e1, q, or_true, true_or, or_false, false_or, z_b_T, z_b_F, Bool.false_eq_true, Classical.not_not, decide_eq_true_eq, z_sq, Option.bind_some, z_lits, z_n_add, z_n_mul, z_lt, z_le, z_eq, z_ne1, z_1ne, z_lt1, z_1lt, z_ltT, z_ltF, z_leT, z_leF, z_eqF, z_b_0, z_b_1, ↓reduceIte, eq_self, not_true_eq_false, not_false_eq_true, and_true, true_and, and_false, false_and, Nat.add_zero, Nat.zero_add]
      · rw [if_neg q]
        simp (disch := omega) only [f_Rs_fittest_L16, hi, l1, l2, o5, e1, q, or_true, true_or, or_false, false_or, z_b_T, z_b_F, Bool.false_eq_true, Classical.not_not, decide_eq_true_eq, z_sq, Option.bind_some, z_lits, z_n_add, z_n_mul, z_lt, z_le, z_eq, z_ne1, z_1ne, z_lt1, z_1lt, z_ltT, z_ltF, z_leT, z_leF, z_eqF, z_b_0, z_b_1, ↓reduceIte, eq_self, not_true_eq_false, not_false_eq_true, and_true, true_and, and_false, false_and, Nat.add_zero, Nat.zero_add])
    (by
      intro m X ⟨h1, hX⟩
      refine ⟨X, ?_, hX⟩
      simp (disch := omega) only [f_Rs_fittest_L16, Nat.lt_irrefl, or_true, true_or, or_false, false_or, z_b_T, z_b_F, Bool.false_eq_true, Classical.not_not, decide_eq_true_eq, z_sq, Option.bind_some, z_lits, z_n_add, z_n_mul, z_lt, z_le, z_eq, z_ne1, z_1ne, z_lt1, z_1lt, z_ltT, z_ltF, z_leT, z_leF, z_eqF, z_b_0, z_b_1, ↓reduceIte, eq_self, not_true_eq_false, not_false_eq_true, and_true, true_and, and_false, false_and, Nat.add_zero, Nat.zero_add])
    q_FU 1 X0 (by omega) (by rw [z_FU]; omega) ⟨Nat.le_refl _, a2⟩
  obtain ⟨BX, cX⟩ := b2.B B
  have c0 : z_cg I J (z_up X 83 0 (z_n 0)) J := cX.trans (z_mf.up rfl).cg
  obtain ⟨Z, d1, d2⟩ : ∃ Z, f_Mo_fittest_L9 83 q_FU (z_n 0) (z_n 1) (z_h S (z_up X 83 0 (z_n 0)) J P n) = some (z_n (l_ft cnt 3), z_h S Z J P n) ∧ l_Q (z_up X 83 0 (z_n 0)) Z :=
    z_loopI (fun m i (Y : z_MI) => f_Mo_fittest_L9 83 m (z_n (l_ft cnt (i - 1))) (z_n i) (z_h S Y J P n)) 4
    (fun i Y => 1 ≤ i ∧ l_Q (z_up X 83 0 (z_n 0)) Y)
    (fun r => ∃ Z, r = some (z_n (l_ft cnt 3), z_h S Z J P n) ∧ l_Q (z_up X 83 0 (z_n 0)) Z)
    (by
      intro m i Y hi ⟨h1, hY⟩
      obtain ⟨Z1, e1, e2⟩ := mm Y (hY.cg c0) i hi
      have hZ1 : l_Q (z_up X 83 0 (z_n 0)) Z1 := fun a ha => (e2 a ha).trans (hY a ha)
      obtain ⟨Z2, e3, e4⟩ := mm Z1 (hZ1.cg c0) (l_ft cnt (i - 1)) (by have := fl (i - 1); omega)
      refine ⟨Z2, ⟨by omega, fun a ha => (e4 a ha).trans (hZ1 a ha)⟩, ?_⟩
      obtain ⟨j, rfl⟩ : ∃ j, i = j + 1 := ⟨i - 1, by omega⟩
      rw [Nat.add_sub_cancel] at e3
      rw [Nat.add_sub_cancel, Nat.add_sub_cancel, l_ft]
      have q1 := le (j + 1)
      have q2 := le (l_ft cnt j)
      by_cases q : cnt (j + 1) < cnt (l_ft cnt j)
      · rw [if_pos q]
        simp (disch := omega) only [f_Mo_fittest_L9, hi, om, e1, e3, q, or_true, true_or, or_false, false_or, z_b_T, z_b_F, Bool.false_eq_true, Classical.not_not, decide_eq_true_eq, z_sq, Option.bind_some, z_lits, z_n_add, z_n_mul, z_lt, z_le, z_eq, z_ne1, z_1ne, z_lt1, z_1lt, z_ltT, z_ltF, z_leT, z_leF, z_eqF, z_b_0, z_b_1, ↓reduceIte, eq_self, not_true_eq_false, not_false_eq_true, and_true, true_and, and_false, false_and, Nat.add_zero, Nat.zero_add]
      · rw [if_neg q]
        simp (disch := omega) only [f_Mo_fittest_L9, hi, om, e1, e3, q, or_true, true_or, or_false, false_or, z_b_T, z_b_F, Bool.false_eq_true, Classical.not_not, decide_eq_true_eq, z_sq, Option.bind_some, z_lits, z_n_add, z_n_mul, z_lt, z_le, z_eq, z_ne1, z_1ne, z_lt1, z_1lt, z_ltT, z_ltF, z_leT, z_leF, z_eqF, z_b_0, z_b_1, ↓reduceIte, eq_self, not_true_eq_false, not_false_eq_true, and_true, true_and, and_false, false_and, Nat.add_zero, Nat.zero_add])
    (by
      intro m Y ⟨h1, hY⟩
      refine ⟨Y, ?_, hY⟩
      simp (disch := omega) only [f_Mo_fittest_L9, Nat.lt_irrefl, or_true, true_or, or_false, false_or, z_b_T, z_b_F, Bool.false_eq_true, Classical.not_not, decide_eq_true_eq, z_sq, Option.bind_some, z_lits, z_n_add, z_n_mul, z_lt, z_le, z_eq, z_ne1, z_1ne, z_lt1, z_1lt, z_ltT, z_ltF, z_leT, z_leF, z_eqF, z_b_0, z_b_1, ↓reduceIte, eq_self, not_true_eq_false, not_false_eq_true, and_true, true_and, and_false, false_and, Nat.add_zero, Nat.zero_add])
    q_FU 1 (z_up X 83 0 (z_n 0)) (by omega) (by rw [z_FU]; omega) ⟨Nat.le_refl _, fun _ _ => rfl⟩
  obtain ⟨l1, l2⟩ := ll 0 (by omega)
  refine l_call H (r := z_n (l_ft cnt 3)) (X := X) (Y := Z) ?_ b2 ?_ d2
  · simp (disch := omega) only [f_Rs_fittest, l1, l2, o5, a1, b1, or_true, true_or, or_false, false_or, z_b_T, z_b_F, Bool.false_eq_true, Classical.not_not, decide_eq_true_eq, z_sq, Option.bind_some, z_lits, z_n_add, z_n_mul, z_lt, z_le, z_eq, z_ne1, z_1ne, z_lt1, z_1lt, z_ltT, z_ltF, z_leT, z_leF, z_eqF, z_b_0, z_b_1, ↓reduceIte, eq_self, not_true_eq_false, not_false_eq_true, and_true, true_and, and_false, false_and, Nat.add_zero, Nat.zero_add]
  · simp (disch := omega) only [f_Mo_fittest, M_thr hS, d1, or_true, true_or, or_false, false_or, z_b_T, z_b_F, Bool.false_eq_true, Classical.not_not, decide_eq_true_eq, z_sq, Option.bind_some, z_lits, z_n_add, z_n_mul, z_lt, z_le, z_eq, z_ne1, z_1ne, z_lt1, z_1lt, z_ltT, z_ltF, z_leT, z_leF, z_eqF, z_b_0, z_b_1, ↓reduceIte, eq_self, not_true_eq_false, not_false_eq_true, and_true, true_and, and_false, false_and, Nat.add_zero, Nat.zero_add]
end
