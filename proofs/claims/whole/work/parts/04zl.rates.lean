/-! RATES: many worlds. -/
theorem w_house_c {nx : Nat → Nat} {dr : Nat → Nat → Nat} {I I' : z_MI} {J J' : z_MJ} (h : z_cg I J I' J') (t w o : Nat) (X : Nat × Nat × Nat) : w_house nx dr I' t w o X = w_house nx dr I t w o X := by
  unfold w_house
  rw [w_al_c h]
theorem w_all_c {nx : Nat → Nat} {dr : Nat → Nat → Nat} {I I' : z_MI} {J J' : z_MJ} (h : z_cg I J I' J') (t w o g : Nat) : ∀ i, w_all nx dr I' t w o g i = w_all nx dr I t w o g i
  | 0 => rfl
  | i + 1 => by rw [w_all, w_all, w_all_c h t w o g i, w_house_c h]
/-- whether a world weds no fewer than the books: one or nothing -/
def w_rt (A p : Nat) (X : Nat × Nat × Nat) : Nat := if z_n (X.2.2 * A) < z_n (p * X.2.1) then 0 else 1
section
variable {S : z_SH} {I : z_MI} {J : z_MJ} {P : z_MP} {K : Nat → Bool} {n : Nat × Nat}
set_option maxRecDepth 100000 in
set_option maxHeartbeats 4000000 in
theorem C_rl (B : z_B S I J P K n.1) {nx : Nat → Nat} {dr : Nat → Nat → Nat} (hnx : ∀ g, nx g < 2147483648) (hdr : ∀ g m, 0 < m → dr g m < m) (Dr : ∀ (I : z_MI) (J : z_MJ) (g m : Nat), J 36 2 = z_z (g : Nat) → g < 2147483648 → 0 < m → m ≤ 1000000 → f_Wo_draw 36 (z_n m) (z_h S I J P n) = some (z_n (dr (nx g) m), z_h S I (z_uj J 36 2 (z_z (nx g : Nat))) P n)) {r v t w o A p : Nat} (hr : r ≤ 20) (hv : v ≤ 40) (ht : t < 4) (hw : w ≤ 30) (ho : o ≤ 10) : ∃ I' J', f_Rs_rates_L60 8 (z_n r) (z_n v) (z_n t) (z_n w) (z_n o) (z_n A) (z_n p) q_FU (z_n 0) (z_n 0) (z_h S I J P n) = some (z_n (z_sum r fun i => w_rt A p (w_all nx dr I t w o i v)), z_h S I' J' P n) ∧ (∀ a, a < 36 ∨ 40 < a → I' a = I a ∧ J' a = J a) := by
  have hS := B.qS
  have hP := B.qP
  have hn := B.qn
  exact z_runI (fun m i (Y : z_MI × z_MJ) => f_Rs_rates_L60 8 (z_n r) (z_n v) (z_n t) (z_n w) (z_n o) (z_n A) (z_n p) m (z_n (z_sum i fun i => w_rt A p (w_all nx dr I t w o i v))) (z_n i) (z_h S Y.1 Y.2 P n)) r
    (fun i Y => ∀ a, a < 36 ∨ 40 < a → Y.1 a = I a ∧ Y.2 a = J a)
    (fun R => ∃ I' J', R = some (z_n (z_sum r fun i => w_rt A p (w_all nx dr I t w o i v)), z_h S I' J' P n) ∧ (∀ a, a < 36 ∨ 40 < a → I' a = I a ∧ J' a = J a)) (by omega)
    (by
      intro m i ⟨I1, J1⟩ hi q1
      simp only at q1 ⊢
      have G := w_ag_of (K := K) (S := S) (P := P) (n := n) q1
      have B1 : z_B S I1 J1 P K n.1 := B.mono (z_keepx K) G (Nat.le_refl _)
      have cg := G.cg (K := K) (z_keepx K) B.2.2.1.2 hn
      obtain ⟨I2, J2, a1, a2, a3, a4⟩ := C_houses (n := n) B1 hnx hdr Dr (g := i) (v := v) (t := t) (w := w) (o := o) (by omega) hv ht hw ho
      rw [w_all_c cg] at a3 a4
      have cw := fun I J => C_wld (I := I) (J := J) (n := n) hS hP
      have cl := fun I J => C_lives (I := I) (J := J) (n := n) hS hP
      refine ⟨(I2, J2), fun a ha => ⟨(a2 a ha).1.trans (q1 a ha).1, (a2 a ha).2.trans (q1 a ha).2⟩, ?_⟩
      have e : w_rt A p (w_all nx dr I t w o i v) = if z_n ((w_all nx dr I t w o i v).2.2 * A) < z_n (p * (w_all nx dr I t w o i v).2.1) then 0 else 1 := rfl
      rw [z_sum_s, e]
      generalize z_sum i _ = s
      generalize w_all nx dr I t w o i v = W at *
      by_cases hc : z_n (W.2.2 * A) < z_n (p * W.2.1)
      · have hc' := eq_true hc
        simp (disch := omega) only [f_Rs_rates_L60, cw, cl, hi, a1, z_Wor hS hP, a3, a4, z_sq, Option.bind_some, z_lits, z_lt, z_n_mul, ↓reduceIte]
        rw [if_pos hc, if_pos hc]
        simp only [z_n_add]
      · simp (disch := omega) only [f_Rs_rates_L60, cw, cl, hi, a1, z_Wor hS hP, a3, a4, z_sq, Option.bind_some, z_lits, z_lt, z_n_mul, ↓reduceIte]
        rw [if_neg hc, if_neg hc]
        simp only [z_n_add])
    (by
      intro m ⟨I1, J1⟩ q1
      simp only at q1 ⊢
      refine ⟨I1, J1, ?_, q1⟩
      simp (disch := omega) only [f_Rs_rates_L60, Nat.lt_irrefl, or_true, true_or, or_false, false_or, z_b_T, z_b_F, Bool.false_eq_true, Classical.not_not, decide_eq_true_eq, z_sq, Option.bind_some, z_lits, z_n_add, z_n_mul, z_lt, z_le, z_eq, z_ne1, z_1ne, z_lt1, z_1lt, z_ltT, z_ltF, z_leT, z_leF, z_eqF, z_b_0, z_b_1, ↓reduceIte, eq_self, not_true_eq_false, not_false_eq_true, and_true, true_and, and_false, false_and, Nat.add_zero, Nat.zero_add])
    (x := (I, J)) (fun _ _ => ⟨rfl, rfl⟩)
set_option maxRecDepth 100000 in
set_option maxHeartbeats 4000000 in
theorem M_rl (B : z_B S I J P K n.1) {S' : z_SH} {P' : z_MP} {n' : Nat × Nat} (hS' : z_St S') (hP' : z_Pt P') {nx : Nat → Nat} {dr : Nat → Nat → Nat} (hnx : ∀ g, nx g < 2147483648) (hdr : ∀ g m, 0 < m → dr g m < m) (Dr : ∀ (I : z_MI) (J : z_MJ) (g m : Nat), J 83 52 = z_z (g : Nat) → g < 2147483648 → 0 < m → m ≤ 1000000 → f_Mo_draws 83 (z_n m) (z_h S' I J P' n') = some (z_n (dr (nx g) m), z_h S' I (z_uj J 83 52 (z_z (nx g : Nat))) P' n')) {I0 : z_MI} {J0 : z_MJ} (cg0 : z_cg I J I0 J0) {r v t w o A p : Nat} (hr : r ≤ 20) (hv : v ≤ 40) (ht : t < 4) (hw : w ≤ 30) (ho : o ≤ 10) : ∃ I' J', f_Mo_rates_L63 83 (z_n r) (z_n v) (z_n t) (z_n w) (z_n o) (z_n A) (z_n p) q_FU (z_n 0) (z_n 0) (z_h S' I0 J0 P' n') = some (z_n (z_sum r fun i => w_rt A p (w_all nx dr I t w o i v)), z_h S' I' J' P' n') ∧ z_mf I0 J0 I' J' := by
  exact z_runI (fun m i (Y : z_MI × z_MJ) => f_Mo_rates_L63 83 (z_n r) (z_n v) (z_n t) (z_n w) (z_n o) (z_n A) (z_n p) m (z_n (z_sum i fun i => w_rt A p (w_all nx dr I t w o i v))) (z_n i) (z_h S' Y.1 Y.2 P' n')) r
    (fun i Y => z_mf I0 J0 Y.1 Y.2)
    (fun R => ∃ I' J', R = some (z_n (z_sum r fun i => w_rt A p (w_all nx dr I t w o i v)), z_h S' I' J' P' n') ∧ z_mf I0 J0 I' J') (by omega)
    (by
      intro m i ⟨I1, J1⟩ hi q1
      simp only at q1 ⊢
      obtain ⟨I2, J2, a1, a2, _, a3, a4⟩ := M_houses (n' := n') B hS' hP' hnx hdr Dr (cg0.trans q1.cg) (g := i) (v := v) (t := t) (w := w) (o := o) (by omega) hv ht hw ho
      refine ⟨(I2, J2), q1.trans a2, ?_⟩
      have e : w_rt A p (w_all nx dr I t w o i v) = if z_n ((w_all nx dr I t w o i v).2.2 * A) < z_n (p * (w_all nx dr I t w o i v).2.1) then 0 else 1 := rfl
      rw [z_sum_s, e]
      generalize z_sum i _ = s
      generalize w_all nx dr I t w o i v = W at *
      by_cases hc : z_n (W.2.2 * A) < z_n (p * W.2.1)
      · simp (disch := omega) only [f_Mo_rates_L63, hi, a1, z_Mr hS' hP', a3, a4, z_sq, Option.bind_some, z_lits, z_lt, z_n_mul, ↓reduceIte]
        rw [if_pos hc, if_pos hc]
        simp only [z_n_add]
      · simp (disch := omega) only [f_Mo_rates_L63, hi, a1, z_Mr hS' hP', a3, a4, z_sq, Option.bind_some, z_lits, z_lt, z_n_mul, ↓reduceIte]
        rw [if_neg hc, if_neg hc]
        simp only [z_n_add])
    (by
      intro m ⟨I1, J1⟩ q1
      simp only at q1 ⊢
      refine ⟨I1, J1, ?_, q1⟩
      simp (disch := omega) only [f_Mo_rates_L63, Nat.lt_irrefl, or_true, true_or, or_false, false_or, z_b_T, z_b_F, Bool.false_eq_true, Classical.not_not, decide_eq_true_eq, z_sq, Option.bind_some, z_lits, z_n_add, z_n_mul, z_lt, z_le, z_eq, z_ne1, z_1ne, z_lt1, z_1lt, z_ltT, z_ltF, z_leT, z_leF, z_eqF, z_b_0, z_b_1, ↓reduceIte, eq_self, not_true_eq_false, not_false_eq_true, and_true, true_and, and_false, false_and, Nat.add_zero, Nat.zero_add])
    (x := (I0, J0)) (z_mf.refl _ _)
set_option maxRecDepth 100000 in
set_option maxHeartbeats 4000000 in
theorem X_rates0 (B : z_B S I J P K n.1) {nx : Nat → Nat} {dr : Nat → Nat → Nat} (hnx : ∀ g, nx g < 2147483648) (hdr : ∀ g m, 0 < m → dr g m < m) (DrC : ∀ (S : z_SH) (P : z_MP) (n : Nat × Nat), z_St S → ∀ (I : z_MI) (J : z_MJ) (g m : Nat), J 36 2 = z_z (g : Nat) → g < 2147483648 → 0 < m → m ≤ 1000000 → f_Wo_draw 36 (z_n m) (z_h S I J P n) = some (z_n (dr (nx g) m), z_h S I (z_uj J 36 2 (z_z (nx g : Nat))) P n)) (DrM : ∀ (S : z_SH) (P : z_MP) (n : Nat × Nat), z_St S → ∀ (I : z_MI) (J : z_MJ) (g m : Nat), J 83 52 = z_z (g : Nat) → g < 2147483648 → 0 < m → m ≤ 1000000 → f_Mo_draws 83 (z_n m) (z_h S I J P n) = some (z_n (dr (nx g) m), z_h S I (z_uj J 83 52 (z_z (nx g : Nat))) P n)) (r v t w o : Int32) : z_pr (f_Rs_rates 8 r v t w o) (f_Mo_rates 83 r v t w o) S I J P K n := by
  have hS0 := B.qS
  have hn := B.qn
  have hs : z_sc (z_n 0) (z_n 0) = true := by decide
  obtain ⟨S', I', J', P', h1, h2, h3, hS, hP, cg⟩ := C_gat B hs
  have g : z_ag n.1 (z_x0 K) S I J P S' I' J' P' := h2.x0
  have B' : z_B S' I' J' P' K (n.1 + 2) := B.mono (z_keepx K) g (by omega)
  have bd : n.1 ≤ (n.1 + 2, n.2 + 16).1 ∧ (n.1 + 2, n.2 + 16).1 ≤ n.1 + 60 ∧ (n.1 + 2, n.2 + 16).2 ≤ n.2 + 3000 := ⟨by simp, by simp, by simp⟩
  have m : z_mf I' J' (z_up I' 83 0 (z_n 0)) J' := z_mf.up rfl
  have co := M_count B hS hP (cg.trans m.cg) (n' := (n.1 + 2, n.2 + 16)) (z_n 0) (z_n 0)
  have b1 := z_pick_le B (z_n 0) (z_n 0) 0 0
  have b2 := z_alln_le B (z_n 0) (z_n 0) 0
  have eA : z_co I J (z_n 0) (z_n 0) (-z_n 1) (z_n 31) (z_n 2) = z_alln I J (z_n 0) (z_n 0) 0 := rfl
  have eP : z_co I J (z_n 0) (z_n 0) (-z_n 1) (z_n 1) (z_n 2) = z_pick I J (z_n 0) (z_n 0) 0 0 := rfl
  have cA := C_all' (J := J') (n := (n.1 + 2, n.2 + 16)) (lv := 0) h3 (by omega)
  have cP := C_picked' (J := J') (n := (n.1 + 2, n.2 + 16)) (lv := 0) (how := 0) h3 (by omega) (by omega)
  generalize z_alln I J (z_n 0) (z_n 0) 0 = A at *
  generalize z_pick I J (z_n 0) (z_n 0) 0 0 = p at *
  rcases w_in (b := r) (N := 20) (by omega) with ⟨r', hr1, hr2, rfl⟩ | hr
  rotate_left
  · obtain ⟨f1, _⟩ := w_from0 (σ := z_h S' I' J' P' (n.1 + 2, n.2 + 16)) hr
    obtain ⟨_, f2⟩ := w_from0 (σ := z_h S' (z_up I' 83 0 (z_n 0)) J' P' (n.1 + 2, n.2 + 16)) hr
    refine z_pr.mk' (r := -z_n 1) (n' := (n.1 + 2, n.2 + 16)) g bd m ?_ ?_
    · simp (disch := omega) only [f_Rs_rates, C_gat8 hS0, h1, h3.r.1, cA, f1, or_true, true_or, or_false, false_or, z_b_T, z_b_F, Bool.false_eq_true, Classical.not_not, decide_eq_true_eq, z_sq, Option.bind_some, z_lits, z_n_add, z_n_mul, z_lt, z_le, z_eq, z_ne1, z_1ne, z_lt1, z_1lt, z_ltT, z_ltF, z_leT, z_leF, z_eqF, z_b_0, z_b_1, ↓reduceIte, eq_self, not_true_eq_false, not_false_eq_true, and_true, true_and, and_false, false_and, Nat.add_zero, Nat.zero_add]
    · simp (disch := omega) only [f_Mo_rates, M_thr hS, z_ob (s_83 hS), co, eA, f2, or_true, true_or, or_false, false_or, z_b_T, z_b_F, Bool.false_eq_true, Classical.not_not, decide_eq_true_eq, z_sq, Option.bind_some, z_lits, z_n_add, z_n_mul, z_lt, z_le, z_eq, z_ne1, z_1ne, z_lt1, z_1lt, z_ltT, z_ltF, z_leT, z_leF, z_eqF, z_b_0, z_b_1, ↓reduceIte, eq_self, not_true_eq_false, not_false_eq_true, and_true, true_and, and_false, false_and, Nat.add_zero, Nat.zero_add]
  obtain ⟨f1, _⟩ := w_from1 (σ := z_h S' I' J' P' (n.1 + 2, n.2 + 16)) hr1 hr2 (by omega)
  obtain ⟨_, f2⟩ := w_from1 (σ := z_h S' (z_up I' 83 0 (z_n 0)) J' P' (n.1 + 2, n.2 + 16)) hr1 hr2 (by omega)
  rcases w_is v t w o with ⟨⟨v', t', w', o', ⟨hv1, hv2⟩, ht, hw, ho, rfl, rfl, rfl, rfl⟩, e1, e2⟩ | ⟨e1, e2⟩
  rotate_left
  · refine z_pr.mk' (r := -z_n 1) (n' := (n.1 + 2, n.2 + 16)) g bd m ?_ ?_
    · simp (disch := omega) only [f_Rs_rates, C_gat8 hS0, h1, h3.r.1, cA, f1, e1, or_true, true_or, or_false, false_or, z_b_T, z_b_F, Bool.false_eq_true, Classical.not_not, decide_eq_true_eq, z_sq, Option.bind_some, z_lits, z_n_add, z_n_mul, z_lt, z_le, z_eq, z_ne1, z_1ne, z_lt1, z_1lt, z_ltT, z_ltF, z_leT, z_leF, z_eqF, z_b_0, z_b_1, ↓reduceIte, eq_self, not_true_eq_false, not_false_eq_true, and_true, true_and, and_false, false_and, Nat.add_zero, Nat.zero_add]
    · simp (disch := omega) only [f_Mo_rates, M_thr hS, z_ob (s_83 hS), co, eA, f2, e2, or_true, true_or, or_false, false_or, z_b_T, z_b_F, Bool.false_eq_true, Classical.not_not, decide_eq_true_eq, z_sq, Option.bind_some, z_lits, z_n_add, z_n_mul, z_lt, z_le, z_eq, z_ne1, z_1ne, z_lt1, z_1lt, z_ltT, z_ltF, z_leT, z_leF, z_eqF, z_b_0, z_b_1, ↓reduceIte, eq_self, not_true_eq_false, not_false_eq_true, and_true, true_and, and_false, false_and, Nat.add_zero, Nat.zero_add]
  by_cases h0 : A = 0
  · refine z_pr.mk' (r := -z_n 1) (n' := (n.1 + 2, n.2 + 16)) g bd m ?_ ?_
    · simp (disch := omega) only [f_Rs_rates, C_gat8 hS0, h1, h3.r.1, cA, f1, e1, h0, or_true, true_or, or_false, false_or, z_b_T, z_b_F, Bool.false_eq_true, Classical.not_not, decide_eq_true_eq, z_sq, Option.bind_some, z_lits, z_n_add, z_n_mul, z_lt, z_le, z_eq, z_ne1, z_1ne, z_lt1, z_1lt, z_ltT, z_ltF, z_leT, z_leF, z_eqF, z_b_0, z_b_1, ↓reduceIte, eq_self, not_true_eq_false, not_false_eq_true, and_true, true_and, and_false, false_and, Nat.add_zero, Nat.zero_add]
    · simp (disch := omega) only [f_Mo_rates, M_thr hS, z_ob (s_83 hS), co, eA, f2, e2, h0, or_true, true_or, or_false, false_or, z_b_T, z_b_F, Bool.false_eq_true, Classical.not_not, decide_eq_true_eq, z_sq, Option.bind_some, z_lits, z_n_add, z_n_mul, z_lt, z_le, z_eq, z_ne1, z_1ne, z_lt1, z_1lt, z_ltT, z_ltF, z_leT, z_leF, z_eqF, z_b_0, z_b_1, ↓reduceIte, eq_self, not_true_eq_false, not_false_eq_true, and_true, true_and, and_false, false_and, Nat.add_zero, Nat.zero_add]
  obtain ⟨I1, J1, a1, a2⟩ := C_rl (n := (n.1 + 2, n.2 + 16)) B' hnx hdr (DrC S' P' _ hS) (r := r') (v := v') (t := t') (w := w') (o := o') (A := A) (p := p) hr2 hv2 (by omega) hw ho
  have G := w_ag_of (K := K) (S := S') (P := P') (n := (n.1 + 2, n.2 + 16)) a2
  have cg1 := G.cg (K := K) (z_keepx K) B'.2.2.1.2 (by simp; omega)
  have m1 : z_mf I1 J1 (z_up I1 83 0 (z_n 0)) J1 := z_mf.up rfl
  obtain ⟨I2, J2, c1, c2⟩ := M_rl (n := (n.1 + 2, n.2 + 16)) (n' := (n.1 + 2, n.2 + 16)) B' hS hP hnx hdr (DrM S' P' _ hS) (cg1.trans m1.cg) (r := r') (v := v') (t := t') (w := w') (o := o') (A := A) (p := p) hr2 hv2 (by omega) hw ho
  have co1 := M_count B hS hP (cg.trans (cg1.trans m1.cg)) (n' := (n.1 + 2, n.2 + 16)) (z_n 0) (z_n 0)
  obtain ⟨_, f2⟩ := w_from1 (σ := z_h S' (z_up I1 83 0 (z_n 0)) J1 P' (n.1 + 2, n.2 + 16)) hr1 hr2 (by omega)
  refine z_pr.mk' (r := z_n (z_sum r' fun i => w_rt A p (w_all nx dr I' t' w' o' i v'))) (n' := (n.1 + 2, n.2 + 16)) (g.trans (by omega) G) bd (m1.trans c2) ?_ ?_
  · simp (disch := omega) only [f_Rs_rates, C_gat8 hS0, h1, h3.r.1, cA, cP, f1, e1, h0, a1, or_true, true_or, or_false, false_or, z_b_T, z_b_F, Bool.false_eq_true, Classical.not_not, decide_eq_true_eq, z_sq, Option.bind_some, z_lits, z_n_add, z_n_mul, z_lt, z_le, z_eq, z_ne1, z_1ne, z_lt1, z_1lt, z_ltT, z_ltF, z_leT, z_leF, z_eqF, z_b_0, z_b_1, ↓reduceIte, eq_self, not_true_eq_false, not_false_eq_true, and_true, true_and, and_false, false_and, Nat.add_zero, Nat.zero_add]
  · simp (disch := omega) only [f_Mo_rates, M_thr hS, z_ob (s_83 hS), co1, eA, eP, f2, e2, h0, c1, or_true, true_or, or_false, false_or, z_b_T, z_b_F, Bool.false_eq_true, Classical.not_not, decide_eq_true_eq, z_sq, Option.bind_some, z_lits, z_n_add, z_n_mul, z_lt, z_le, z_eq, z_ne1, z_1ne, z_lt1, z_1lt, z_ltT, z_ltF, z_leT, z_leF, z_eqF, z_b_0, z_b_1, ↓reduceIte, eq_self, not_true_eq_false, not_false_eq_true, and_true, true_and, and_false, false_and, Nat.add_zero, Nat.zero_add]
theorem X_rates (B : z_B S I J P K n.1) (r v t w o : Int32) : z_pr (f_Rs_rates 8 r v t w o) (f_Mo_rates 83 r v t w o) S I J P K n :=
  X_rates0 (nx := w_nx) (dr := w_dr) B w_nx_lt w_dr_lt (fun _ _ _ hS _ _ _ _ h1 h2 h3 h4 => C_draw hS h1 h2 h3 h4) (fun _ _ _ hS _ _ _ _ h1 h2 h3 h4 => M_draws hS h1 h2 h3 h4) r v t w o
end
