/-! WORLDS: the two answers. -/
section
variable {S : z_SH} {I : z_MI} {J : z_MJ} {P : z_MP} {K : Nat → Bool} {n : Nat × Nat}
theorem C_wld (hS : z_St S) (hP : z_Pt P) : q_gr (q_gf (z_h S I J P n) 0 8 10) = some 36 ∧ q_ob (z_h S I J P n) 5 36 = some (z_vs I J P 36 ((S 36).elim [] Prod.snd)) := ⟨z_gr (s_8 hS) rfl (p_8_10 hP), by rw [z_ob (s_36 hS), s_36 hS]; rfl⟩
theorem w_ag_of {I' : z_MI} {J' : z_MJ} (h : ∀ a, a < 36 ∨ 40 < a → I' a = I a ∧ J' a = J a) : z_ag n.1 (z_x0 K) S I J P S I' J' P := by
  intro a ha
  refine ⟨⟨rfl, rfl⟩, fun hx => ?_⟩
  unfold z_x0 at hx
  simp only [Bool.or_eq_false_iff, Bool.and_eq_false_iff, decide_eq_false_iff_not] at hx
  exact h a (by omega)
set_option maxRecDepth 100000 in
set_option maxHeartbeats 4000000 in
theorem X_world0 (B : z_B S I J P K n.1) {nx : Nat → Nat} {dr : Nat → Nat → Nat} (hnx : ∀ g, nx g < 2147483648) (hdr : ∀ g m, 0 < m → dr g m < m) (DrC : ∀ (I : z_MI) (J : z_MJ) (g m : Nat), J 36 2 = z_z (g : Nat) → g < 2147483648 → 0 < m → m ≤ 1000000 → f_Wo_draw 36 (z_n m) (z_h S I J P n) = some (z_n (dr (nx g) m), z_h S I (z_uj J 36 2 (z_z (nx g : Nat))) P n)) (DrM : ∀ (I : z_MI) (J : z_MJ) (g m : Nat), J 83 52 = z_z (g : Nat) → g < 2147483648 → 0 < m → m ≤ 1000000 → f_Mo_draws 83 (z_n m) (z_h S I J P n) = some (z_n (dr (nx g) m), z_h S I (z_uj J 83 52 (z_z (nx g : Nat))) P n)) (s v t w o d : Int32) : z_pr (f_Rs_world 8 s v t w o d) (f_Mo_world 83 s v t w o d) S I J P K n := by
  have hS := B.qS
  have hP := B.qP
  have hn := B.qn
  have m : z_mf I J (z_up I 83 0 (z_n 0)) J := z_mf.up rfl
  rcases z_in s 9999 (by omega) with ⟨g, hg, rfl⟩ | ho
  rotate_left
  · refine z_pr.same (r := -z_n 1) ?_ ?_ m
    · simp (disch := omega) only [f_Rs_world, C_out ho, or_true, true_or, or_false, false_or, z_b_T, z_b_F, Bool.false_eq_true, Classical.not_not, decide_eq_true_eq, z_sq, Option.bind_some, z_lits, z_n_add, z_n_mul, z_lt, z_le, z_eq, z_ne1, z_1ne, z_lt1, z_1lt, z_ltT, z_ltF, z_leT, z_leF, z_eqF, z_b_0, z_b_1, ↓reduceIte, eq_self, not_true_eq_false, not_false_eq_true, and_true, true_and, and_false, false_and, Nat.add_zero, Nat.zero_add]
    · simp (disch := omega) only [f_Mo_world, M_thr hS, M_wout ho, or_true, true_or, or_false, false_or, z_b_T, z_b_F, Bool.false_eq_true, Classical.not_not, decide_eq_true_eq, z_sq, Option.bind_some, z_lits, z_n_add, z_n_mul, z_lt, z_le, z_eq, z_ne1, z_1ne, z_lt1, z_1lt, z_ltT, z_ltF, z_leT, z_leF, z_eqF, z_b_0, z_b_1, ↓reduceIte, eq_self, not_true_eq_false, not_false_eq_true, and_true, true_and, and_false, false_and, Nat.add_zero, Nat.zero_add]
  rcases w_is v t w o with ⟨⟨v', t', w', o', ⟨hv1, hv2⟩, ht, hw, ho, rfl, rfl, rfl, rfl⟩, e1, e2⟩ | ⟨e1, e2⟩
  rotate_left
  · refine z_pr.same (r := -z_n 1) ?_ ?_ m
    · simp (disch := omega) only [f_Rs_world, C_in, e1, or_true, true_or, or_false, false_or, z_b_T, z_b_F, Bool.false_eq_true, Classical.not_not, decide_eq_true_eq, z_sq, Option.bind_some, z_lits, z_n_add, z_n_mul, z_lt, z_le, z_eq, z_ne1, z_1ne, z_lt1, z_1lt, z_ltT, z_ltF, z_leT, z_leF, z_eqF, z_b_0, z_b_1, ↓reduceIte, eq_self, not_true_eq_false, not_false_eq_true, and_true, true_and, and_false, false_and, Nat.add_zero, Nat.zero_add]
    · simp (disch := omega) only [f_Mo_world, M_thr hS, M_win, e2, or_true, true_or, or_false, false_or, z_b_T, z_b_F, Bool.false_eq_true, Classical.not_not, decide_eq_true_eq, z_sq, Option.bind_some, z_lits, z_n_add, z_n_mul, z_lt, z_le, z_eq, z_ne1, z_1ne, z_lt1, z_1lt, z_ltT, z_ltF, z_leT, z_leF, z_eqF, z_b_0, z_b_1, ↓reduceIte, eq_self, not_true_eq_false, not_false_eq_true, and_true, true_and, and_false, false_and, Nat.add_zero, Nat.zero_add]
  rcases z_in d 1 (by omega) with ⟨x, hx, rfl⟩ | hd
  rotate_left
  · refine z_pr.same (r := -z_n 1) ?_ ?_ m
    · simp (disch := omega) only [f_Rs_world, C_in, C_out hd, e1, or_true, true_or, or_false, false_or, z_b_T, z_b_F, Bool.false_eq_true, Classical.not_not, decide_eq_true_eq, z_sq, Option.bind_some, z_lits, z_n_add, z_n_mul, z_lt, z_le, z_eq, z_ne1, z_1ne, z_lt1, z_1lt, z_ltT, z_ltF, z_leT, z_leF, z_eqF, z_b_0, z_b_1, ↓reduceIte, eq_self, not_true_eq_false, not_false_eq_true, and_true, true_and, and_false, false_and, Nat.add_zero, Nat.zero_add]
    · simp (disch := omega) only [f_Mo_world, M_thr hS, M_win, M_wout hd, e2, or_true, true_or, or_false, false_or, z_b_T, z_b_F, Bool.false_eq_true, Classical.not_not, decide_eq_true_eq, z_sq, Option.bind_some, z_lits, z_n_add, z_n_mul, z_lt, z_le, z_eq, z_ne1, z_1ne, z_lt1, z_1lt, z_ltT, z_ltF, z_leT, z_leF, z_eqF, z_b_0, z_b_1, ↓reduceIte, eq_self, not_true_eq_false, not_false_eq_true, and_true, true_and, and_false, false_and, Nat.add_zero, Nat.zero_add]
  obtain ⟨I1, J1, a1, a2, a3, a4⟩ := C_houses (n := n) B hnx hdr DrC (g := g) (v := v') (t := t') (w := w') (o := o') (by omega) hv2 (by omega) hw ho
  have G := w_ag_of (K := K) (S := S) (P := P) (n := n) a2
  have cg := G.cg (K := K) (z_keepx K) B.2.2.1.2 hn
  have m1 : z_mf I1 J1 (z_up I1 83 0 (z_n 0)) J1 := z_mf.up rfl
  obtain ⟨I2, J2, b1, b2, b3, b4, b5⟩ := M_houses (n' := n) B hS hP hnx hdr DrM (cg.trans m1.cg) (g := g) (v := v') (t := t') (w := w') (o := o') (by omega) hv2 (by omega) hw ho
  have cw := fun I J => C_wld (I := I) (J := J) (n := n) hS hP
  have x01 : x = 0 ∨ x = 1 := by omega
  rcases x01 with rfl | rfl
  · refine z_pr.mk' (r := z_n (w_all nx dr I t' w' o' g v').2.1) (n' := n) G ⟨by omega, by omega, by omega⟩ (m1.trans b2) ?_ ?_
    · simp (disch := omega) only [f_Rs_world, C_in, e1, C_lives hS hP, cw, a1, z_Wor hS hP, a3, or_true, true_or, or_false, false_or, z_b_T, z_b_F, Bool.false_eq_true, Classical.not_not, decide_eq_true_eq, z_sq, Option.bind_some, z_lits, z_n_add, z_n_mul, z_lt, z_le, z_eq, z_ne1, z_1ne, z_lt1, z_1lt, z_ltT, z_ltF, z_leT, z_leF, z_eqF, z_b_0, z_b_1, ↓reduceIte, eq_self, not_true_eq_false, not_false_eq_true, and_true, true_and, and_false, false_and, Nat.add_zero, Nat.zero_add]
    · simp (disch := omega) only [f_Mo_world, M_thr hS, M_win, e2, z_ob (s_83 hS), b1, z_Mr hS hP, b4, or_true, true_or, or_false, false_or, z_b_T, z_b_F, Bool.false_eq_true, Classical.not_not, decide_eq_true_eq, z_sq, Option.bind_some, z_lits, z_n_add, z_n_mul, z_lt, z_le, z_eq, z_ne1, z_1ne, z_lt1, z_1lt, z_ltT, z_ltF, z_leT, z_leF, z_eqF, z_b_0, z_b_1, ↓reduceIte, eq_self, not_true_eq_false, not_false_eq_true, and_true, true_and, and_false, false_and, Nat.add_zero, Nat.zero_add]
  · refine z_pr.mk' (r := z_n (w_all nx dr I t' w' o' g v').2.2) (n' := n) G ⟨by omega, by omega, by omega⟩ (m1.trans b2) ?_ ?_
    · simp (disch := omega) only [f_Rs_world, C_in, e1, C_lives hS hP, cw, a1, z_Wor hS hP, a4, or_true, true_or, or_false, false_or, z_b_T, z_b_F, Bool.false_eq_true, Classical.not_not, decide_eq_true_eq, z_sq, Option.bind_some, z_lits, z_n_add, z_n_mul, z_lt, z_le, z_eq, z_ne1, z_1ne, z_lt1, z_1lt, z_ltT, z_ltF, z_leT, z_leF, z_eqF, z_b_0, z_b_1, ↓reduceIte, eq_self, not_true_eq_false, not_false_eq_true, and_true, true_and, and_false, false_and, Nat.add_zero, Nat.zero_add]
    · simp (disch := omega) only [f_Mo_world, M_thr hS, M_win, e2, z_ob (s_83 hS), b1, z_Mr hS hP, b5, or_true, true_or, or_false, false_or, z_b_T, z_b_F, Bool.false_eq_true, Classical.not_not, decide_eq_true_eq, z_sq, Option.bind_some, z_lits, z_n_add, z_n_mul, z_lt, z_le, z_eq, z_ne1, z_1ne, z_lt1, z_1lt, z_ltT, z_ltF, z_leT, z_leF, z_eqF, z_b_0, z_b_1, ↓reduceIte, eq_self, not_true_eq_false, not_false_eq_true, and_true, true_and, and_false, false_and, Nat.add_zero, Nat.zero_add]
theorem w_dr_lt (g m : Nat) (h : 0 < m) : w_dr g m < m := by unfold w_dr; exact Nat.mod_lt _ h
theorem X_world (B : z_B S I J P K n.1) (s v t w o d : Int32) : z_pr (f_Rs_world 8 s v t w o d) (f_Mo_world 83 s v t w o d) S I J P K n :=
  X_world0 (nx := w_nx) (dr := w_dr) B w_nx_lt w_dr_lt (fun _ _ _ _ h1 h2 h3 h4 => C_draw B.qS h1 h2 h3 h4) (fun _ _ _ _ h1 h2 h3 h4 => M_draws B.qS h1 h2 h3 h4) s v t w o d
end
