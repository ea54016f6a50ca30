/-! RATES: many worlds. -/
theorem w_house_c {nx : Nat → Nat} {dr : Nat → Nat → Nat} {I I' : z_MI} {J J' : z_MJ} (h : z_cg I J I' J') (t w o : Nat) (X : Nat × Nat × Nat) : w_house nx dr I' t w o X = w_house nx dr I t w o X := by
  unfold w_house
  rw [w_al_c h]
theorem w_all_c {nx : Nat → Nat} {dr : Nat → Nat → Nat} {I I' : z_MI} {J J' : z_MJ} (h : z_cg I J I' J') (t w o g : Nat) : ∀ i, w_all nx dr I' t w o g i = w_all nx dr I t w o g i
  | 0 => rfl
  | i + 1 => by rw [w_all, w_all, w_all_c h t w o g i, w_house_c h]
/-- whether a world weds no fewer than the books: one or nothing -/
def w_rt (A p : Nat) (X : Nat × Nat × Nat) : Nat := if z_n (X.2.2 * A) < z_n (p * X.2.1) then 0 else 1
section
variable {S : z_SH} {I : z_MI} {J : z_MJ} {P : z_MP} {K : Nat → Bool} {n : Nat × Nat}
set_option maxRecDepth 100000 in
set_option maxHeartbeats 4000000 in
theorem C_rl (B : z_B S I J P K n.1) {nx : Nat → Nat} {dr : Nat → Nat → Nat} (hnx : ∀ g, nx g < 2147483648) (hdr : ∀ g m, 0 < m → dr g m < m) (Dr : ∀ (I : z_MI) (J : z_MJ) (g m : Nat), J 36 2 = z_z (g : Nat) → g < 2147483648 → 0 < m → m ≤ 1000000 → f_Wo_draw 36 (z_n m) (z_h S I J P n) = some (z_n (dr (nx g) m), z_h S I (z_uj J 36 2 (z_z (nx g : Nat))) P n)) {r v t w o A p : Nat} (hr : r ≤ 20) (hv : v ≤ 40) (ht : t < 4) (hw : w ≤ 30) (ho : o ≤ 10) : ∃ I' J', f_Rs_rates_L60 8 (z_n r) (z_n v) (z_n t) (z_n w) (z_n o) (z_n A) (z_n p) q_FU (z_n 0) (z_n 0) (z_h S I J P n) = some (z_n (z_sum r fun i => w_rt A p (w_all nx dr I t w o i v)), z_h S I' J' P n) ∧ (∀ a, a < 36 ∨ 40 < a → I' a = I a ∧ J' a = J a) := by
  have hS := B.qS
  have hP := B.qP
  have hn := B.qn
  exact z_runI (fun m i (Y : z_MI × z_MJ) => f_Rs_rates_L60 8 (z_n r) (z_n v) (z_n t) (z_n w) (z_n o) (z_n A) (z_n p) m (z_n (z_sum i fun i => w_rt A p (w_all nx dr I t w o i v))) (z_n i) (z_h S Y.1 Y.2 P n)) r
    (fun i Y => ∀ a, a < 36 ∨ 40 < a → Y.1 a = I a ∧ Y.2 a = J a)
    (fun R => ∃ I' J', R = some (z_n (z_sum r fun i => w_rt A p (w_all nx dr I t w o i v)), z_h S I' J' P n) ∧ (∀ a, a < 36 ∨ 40 < a → I' a = I a ∧ J' a = J a)) (by omega)
    (by
      intro m i ⟨I1, J1⟩ hi q1
      simp only at q1 ⊢
      have G := w_ag_of (K := K) (S := S) (P := P) (n := n) q1
      have B1 : z_B S I1 J1 P K n.1 := B.mono (z_keepx K) G (Nat.le_refl _)
      have cg := G.cg (K := K) (z_keepx K) B.2.2.1.2 hn
      obtain ⟨I2, J2, a1, a2, a3, a4⟩ := C_houses (n := n) B1 hnx hdr Dr (g := i) (v := v) (t := t) (w := w) (o := o) (by omega) hv ht hw ho
      rw [w_all_c cg] at a3 a4
      have cw := fun I J => C_wld (I := I) (J := J) (n := n) hS hP
      have cl := fun I J => C_lives (I := I) (J := J) (n := n) hS hP
      refine ⟨(I2, J2), fun a ha => ⟨(a2 a ha).1.trans (q1 a ha).1, (a2 a ha).2.trans (q1 a ha).2⟩, ?_⟩
      have e : w_rt A p (w_all nx dr I t w o i v) = if z_n ((w_all nx dr I t w o i v).2.2 * A) < z_n (p * (w_all nx dr I t w o i v).2.1) then 0 else 1 := rfl
      rw [z_sum_s, e]
      generalize z_sum i _ = s
      generalize w_all nx dr I t w o i v = W at *
      by_cases hc : z_n (W.2.2 * A) < z_n (p * W.2.1)
      · have hc' := eq_true hc
        simp (disch := omega) only [f_Rs_rates_L60, cw, cl, hi, a1, z_Wor hS hP, a3, a4, z_sq, Option.bind_some, z_lits, z_lt, z_n_mul, ↓reduceIte]
        rw [if_pos hc, if_pos hc]
        simp only [z_n_add]
      · simp (disch := omega) only [f_Rs_rates_L60, cw, cl, hi, a1, z_Wor hS hP, a3, a4, z_sq, Option.bind_some, z_lits, z_lt, z_n_mul, ↓reduceIte]
        rw [if_neg hc, if_neg hc]
        simp only [z_n_add])
    (by
      intro m ⟨I1, J1⟩ q1
      simp only at q1 ⊢
      refine ⟨I1, J1, ?_, q1⟩
      simp (disch := omega) only [f_Rs_rates_L60, Nat.lt_irrefl, or_true, true_or, or_false, false_or, z_b_T, z_b_F, Bool.false_eq_true, Classical.not_not, decide_eq_true_eq, z_sq, Option.bind_some, z_lits, z_n_add, z_n_mul, z_lt, z_le, z_eq, z_ne1, z_1ne, z_lt1, z_1lt, z_ltT, z_ltF, z_leT, z_leF, z_eqF, z_b_0, z_b_1, ↓reduceIte, eq_self, not_true_eq_false, not_false_eq_true, and_true, true_and, and_false, false_and, Nat.add_zero, Nat.zero_add])
    (x := (I, J)) (fun _ _ => ⟨rfl, rfl⟩)
set_option maxRecDepth 100000 in
set_option maxHeartbeats 4000000 in
theorem M_rl (B : z_B S I J P K n.1) {S' : z_SH} {P' : z_MP} {n' : Nat × Nat} (hS' : z_St S') (hP' : z_Pt P') {nx : Nat → Nat} {dr : Nat → Nat → Nat} (hnx : ∀ g, nx g < 2147483648) (hdr : ∀ g m, 0 < m → dr g m < m) (Dr : ∀ (I : z_MI) (J : z_MJ) (g m : Nat), J 83 52 = z_z (g : Nat) → g < 2147483648 → 0 < m → m ≤ 1000000 → f_Mo_draws 83 (z_n m) (z_h S' I J P' n') = some (z_n (dr (nx g) m), z_h S' I (z_uj J 83 52 (z_z (nx g : Nat))) P' n')) {I0 : z_MI} {J0 : z_MJ} (cg0 : z_cg I J I0 J0) {r v t w o A p : Nat} (hr : r ≤ 20) (hv : v ≤ 40) (ht : t < 4) (hw : w ≤ 30) (ho : o ≤ 10) : ∃ I' J', f_Mo_rates_L63 83 (z_n r) (z_n v) (z_n t) (z_n w) (z_n o) (z_n A) (z_n p) q_FU (z_n 0) (z_n 0) (z_h S' I0 J0 P' n') = some (z_n (z_sum r fun i => w_rt A p (w_all nx dr I t w o i v)), z_h S' I' J' P' n') ∧ z_mf I0 J0 I' J' := by
  exact z_runI (fun m i (Y : z_MI × z_MJ) => f_Mo_rates_L63 83 (z_n r) (z_n v) (z_n t) (z_n w) (z_n o) (z_n A) (z_n p) m (z_n (z_sum i fun i => w_rt A p (w_all nx dr I t w o i v))) (z_n i) (z_h S' Y.1 Y.2 P' n')) r
    (fun i Y => z_mf I0 J0 Y.1 Y.2)
    (fun R => ∃ I' J', R = some (z_n (z_sum r fun i => w_rt A p (w_all nx dr I t w o i v)), z_h S' I' J' P' n') ∧ z_mf I0 J0 I' J') (by omega)
    (by
      intro m i ⟨I1, J1⟩ hi q1
      simp only at q1 ⊢
      obtain ⟨I2, J2, a1, a2, _, a3, a4⟩ := M_houses (n' := n') B hS' hP' hnx hdr Dr (cg0.trans q1.cg) (g := i) (v := v) (t := t) (w := w) (o := o) (by omega) hv ht hw ho
      refine ⟨(I2, J2), q1.trans a2, ?_⟩
      have e : w_rt A p (w_all nx dr I t w o i v) = if z_n ((w_all nx dr I t w o i v).2.2 * A) < z_n (p * (w_all nx dr I t w o i v).2.1) then 0 else 1 := rfl
      rw [z_sum_s, e]
      generalize z_sum i _ = s
      generalize w_all nx dr I t w o i v = W at *
      by_cases hc : z_n (W.2.2 * A) < z_n (p * W.2.1)
      · simp (disch := omega) only [f_Mo_rates_L63, hi, a1, z_Mr hS' hP', a3, a4, z_sq, Option.bind_some, z_lits, z_lt, z_n_mul, ↓reduceIte]
        rw [if_pos hc, if_pos hc]
        simp only [z_n_add]
      · simp (disch := omega) only [f_Mo_rates_L63, hi, a1, z_Mr hS' hP', a3, a4, z_sq, Option.bind_some, z_lits, z_lt, z_n_mul, ↓reduceIte]
        rw [if_neg hc, if_neg hc]
        simp only [z_n_add])
    (by
      intro m ⟨I1, J1⟩ q1
      simp only at q1 ⊢
      refine ⟨I1, J1, ?_, q1⟩
      simp (disch := omega) only [f_Mo_rates_L63, Nat.lt_irrefl, or_true, true_or, or_false, false_or, z_b_T, z_b_F, Bool.false_eq_true, Classical.not_not, decide_eq_true_eq, z_sq, Option.bind_some, z_lits, z_n_add, z_n_mul, z_lt, z_le, z_eq, z_ne1, z_1ne, z_lt1, z_1lt, z_ltT, z_ltF, z_leT, z_leF, z_eqF, z_b_0, z_b_1, ↓reduceIte, eq_self, not_true_eq_false, not_false_eq_true, and_true, true_and, and_false, false_and, Nat.add_zero, Nat.zero_add])
    (x := (I0, J0)) (z_mf.refl _ _)
end
