/-! WORLDS: the houses, one by one. -/
def w_house (nx : Nat → Nat) (dr : Nat → Nat → Nat) (I : z_MI) (t w o : Nat) (X : Nat × Nat × Nat) : Nat × Nat × Nat :=
  let Y := w_weds nx dr (w_ag nx dr (nx X.1)) (w_gl nx dr (nx X.1)) (w_al nx dr I t (nx X.1)) w o (dr (nx X.1) 6 + 1) ((w_st nx dr (nx X.1) (dr (nx X.1) 6 + 1)).1, (fun _ => false), X.2.1, X.2.2) (dr (nx X.1) 6 + 1)
  (Y.1, Y.2.2.1, Y.2.2.2)
def w_all (nx : Nat → Nat) (dr : Nat → Nat → Nat) (I : z_MI) (t w o g : Nat) : Nat → Nat × Nat × Nat
  | 0 => (g, 0, 0)
  | i + 1 => w_house nx dr I t w o (w_all nx dr I t w o g i)
theorem w_house_lt {nx : Nat → Nat} {dr : Nat → Nat → Nat} (hnx : ∀ g, nx g < 2147483648) {I : z_MI} {t w o : Nat} {X : Nat × Nat × Nat} : (w_house nx dr I t w o X).1 < 2147483648 := by
  unfold w_house
  exact w_weds_lt hnx (w_st_lt hnx _ (hnx _) _) _
theorem w_all_lt {nx : Nat → Nat} {dr : Nat → Nat → Nat} (hnx : ∀ g, nx g < 2147483648) {I : z_MI} {t w o g : Nat} (hg : g < 2147483648) : ∀ i, (w_all nx dr I t w o g i).1 < 2147483648
  | 0 => hg
  | _ + 1 => w_house_lt hnx
theorem w_al_c {nx : Nat → Nat} {dr : Nat → Nat → Nat} {I I' : z_MI} {J J' : z_MJ} (h : z_cg I J I' J') (t g : Nat) : w_al nx dr I' t g = w_al nx dr I t g := by
  funext j
  unfold w_al
  rw [u_at_c h]
section
variable {S : z_SH} {I : z_MI} {J : z_MJ} {P : z_MP} {K : Nat → Bool} {n : Nat × Nat}
set_option maxRecDepth 100000 in
set_option maxHeartbeats 4000000 in
theorem C_houses (B : z_B S I J P K n.1) {nx : Nat → Nat} {dr : Nat → Nat → Nat} (hnx : ∀ g, nx g < 2147483648) (hdr : ∀ g m, 0 < m → dr g m < m) (Dr : ∀ (I : z_MI) (J : z_MJ) (g m : Nat), J 36 2 = z_z (g : Nat) → g < 2147483648 → 0 < m → m ≤ 1000000 → f_Wo_draw 36 (z_n m) (z_h S I J P n) = some (z_n (dr (nx g) m), z_h S I (z_uj J 36 2 (z_z (nx g : Nat))) P n)) {g v t w o : Nat} (hg : g < 1000000) (hv : v ≤ 40) (ht : t < 4) (hw : w ≤ 30) (ho : o ≤ 10) : ∃ I' J', f_Wo_make 36 (z_n g) (z_n v) 27 (z_n t) (z_n w) (z_n o) (z_h S I J P n) = some ((), z_h S I' J' P n) ∧ (∀ a, a < 36 ∨ 40 < a → I' a = I a ∧ J' a = J a) ∧
    I' 36 0 = z_n (w_all nx dr I t w o g v).2.1 ∧ I' 36 1 = z_n (w_all nx dr I t w o g v).2.2 := by
  have hS := B.qS
  have hP := B.qP
  have hn := B.qn
  have key := z_runI (fun m i (Y : z_MI × z_MJ) => f_Wo_make_L19 36 (z_n v) 27 (z_n t) (z_n w) (z_n o) m (z_n i) (z_h S Y.1 Y.2 P n)) v
    (fun i Y => (∀ a, a < 36 ∨ 40 < a → Y.1 a = I a ∧ Y.2 a = J a) ∧ Y.1 36 0 = z_n (w_all nx dr I t w o g i).2.1 ∧ Y.1 36 1 = z_n (w_all nx dr I t w o g i).2.2 ∧ Y.2 36 2 = z_z ((w_all nx dr I t w o g i).1 : Nat))
    (fun r => ∃ I' J', r = some ((), z_h S I' J' P n) ∧ (∀ a, a < 36 ∨ 40 < a → I' a = I a ∧ J' a = J a) ∧ I' 36 0 = z_n (w_all nx dr I t w o g v).2.1 ∧ I' 36 1 = z_n (w_all nx dr I t w o g v).2.2) (by omega)
    (by
      intro m i ⟨I1, J1⟩ hi ⟨q1, q2, q3, q4⟩
      have W31 := w_all_lt (dr := dr) hnx (I := I) (t := t) (w := w) (o := o) (g := g) (by omega) i
      rw [show w_all nx dr I t w o g (i + 1) = w_house nx dr I t w o (w_all nx dr I t w o g i) from rfl]
      simp only at q1 q2 q3 q4 ⊢
      generalize w_all nx dr I t w o g i = W at *
      have c6 : dr (nx W.1) 6 < 6 := hdr _ _ (by omega)
      have G : z_ag n.1 (z_x0 K) S I J P S I1 J1 P := by
        intro a ha
        refine ⟨⟨rfl, rfl⟩, fun hx => ?_⟩
        unfold z_x0 at hx
        simp only [Bool.or_eq_false_iff, Bool.and_eq_false_iff, decide_eq_false_iff_not] at hx
        exact q1 a (by omega)
      have B1 : z_B S I1 J1 P K n.1 := B.mono (z_keepx K) G (Nat.le_refl _)
      have cg := G.cg (K := K) (z_keepx K) B.2.2.1.2 hn
      obtain ⟨I2, J2, b1, b2, b3, b4, b5, b6, b7, b8⟩ := C_bear (n := n) B1 hnx hdr Dr ht q4 W31
      generalize hc : dr (nx W.1) 6 + 1 = c at *
      have ab := fun j (hj : j < c) => w_ag_b (nx := nx) hdr (nx W.1) (i := j) (by omega)
      obtain ⟨I3, J3, d1, d2, d3, d4, d5⟩ := C_weds (I := I2) (J := J2) (n := n) hS hP hnx hdr Dr (ag := w_ag nx dr (nx W.1)) (gl := w_gl nx dr (nx W.1)) (al := w_al nx dr I t (nx W.1)) (w := w) (o := o) (c := c) (by omega) hw ho
        (fun j hj => ⟨(ab j hj).2, (b7 j hj).1⟩) (fun j hj => (b7 j hj).2.1) (fun j hj => by rw [← w_al_c cg]; exact (b7 j hj).2.2) (X := ((w_st nx dr (nx W.1) c).1, (fun _ => false), W.2.1, W.2.2)) (fun j hj => by rw [b8 j hj]; simp only [Bool.false_eq_true, z_b_F]) b5 (b3.trans q2) (b4.trans q3) b6 (w_st_lt hnx _ (hnx _) _)
      refine ⟨(I3, J3), ⟨fun a ha => ?_, ?_, ?_, ?_⟩, ?_⟩
      · obtain ⟨e1, e2⟩ := d2 a (by omega) (by omega)
        obtain ⟨e3, e4⟩ := b2 a ha
        obtain ⟨e5, e6⟩ := q1 a ha
        exact ⟨e1.trans (e3.trans e5), e2.trans (e4.trans e6)⟩
      · unfold w_house; simp only; rw [hc]; exact d3
      · unfold w_house; simp only; rw [hc]; exact d4
      · unfold w_house; simp only; rw [hc]; exact d5
      · simp (disch := omega) only [f_Wo_make_L19, z_Wor hS hP, hi, b1, d1, or_true, true_or, or_false, false_or, z_b_T, z_b_F, Bool.false_eq_true, Classical.not_not, decide_eq_true_eq, z_sq, Option.bind_some, z_lits, z_n_add, z_n_mul, z_lt, z_le, z_eq, z_ne1, z_1ne, z_lt1, z_1lt, z_ltT, z_ltF, z_leT, z_leF, z_eqF, z_b_0, z_b_1, ↓reduceIte, eq_self, not_true_eq_false, not_false_eq_true, and_true, true_and, and_false, false_and, Nat.add_zero, Nat.zero_add])
    (by
      intro m ⟨I1, J1⟩ ⟨q1, q2, q3, q4⟩
      simp only at q1 q2 q3 q4 ⊢
      refine ⟨I1, J1, ?_, q1, q2, q3⟩
      simp (disch := omega) only [f_Wo_make_L19, Nat.lt_irrefl, or_true, true_or, or_false, false_or, z_b_T, z_b_F, Bool.false_eq_true, Classical.not_not, decide_eq_true_eq, z_sq, Option.bind_some, z_lits, z_n_add, z_n_mul, z_lt, z_le, z_eq, z_ne1, z_1ne, z_lt1, z_1lt, z_ltT, z_ltF, z_leT, z_leF, z_eqF, z_b_0, z_b_1, ↓reduceIte, eq_self, not_true_eq_false, not_false_eq_true, and_true, true_and, and_false, false_and, Nat.add_zero, Nat.zero_add])
    (x := (z_up (z_up I 36 0 (z_n 0)) 36 1 (z_n 0), z_uj J 36 2 (z_z (g : Nat)))) (by
      refine ⟨fun a ha => ⟨?_, ?_⟩, ?_, ?_, ?_⟩
      · show z_up (z_up I 36 0 (z_n 0)) 36 1 (z_n 0) a = _
        rw [z_up_r (by omega), z_up_r (by omega)]
      · show z_uj J 36 2 (z_z (g : Nat)) a = _
        rw [z_uj_r (by omega)]
      · show z_up (z_up I 36 0 (z_n 0)) 36 1 (z_n 0) 36 0 = _
        rw [z_up_i (by omega), z_up_s]; rfl
      · show z_up (z_up I 36 0 (z_n 0)) 36 1 (z_n 0) 36 1 = _
        rw [z_up_s]; rfl
      · show z_uj J 36 2 (z_z (g : Nat)) 36 2 = _
        rw [z_uj_s]; rfl)
  obtain ⟨I', J', e1, e2⟩ := key
  refine ⟨I', J', ?_, e2⟩
  have gc : (z_n g).toInt64 = z_z (g : Nat) := z_cast (by omega)
  simp (disch := omega) only [f_Wo_make, z_Wow hS, gc, e1, or_true, true_or, or_false, false_or, z_b_T, z_b_F, Bool.false_eq_true, Classical.not_not, decide_eq_true_eq, z_sq, Option.bind_some, z_lits, z_n_add, z_n_mul, z_lt, z_le, z_eq, z_ne1, z_1ne, z_lt1, z_1lt, z_ltT, z_ltF, z_leT, z_leF, z_eqF, z_b_0, z_b_1, ↓reduceIte, eq_self, not_true_eq_false, not_false_eq_true, and_true, true_and, and_false, false_and, Nat.add_zero, Nat.zero_add]
set_option maxRecDepth 100000 in
set_option maxHeartbeats 4000000 in
theorem M_houses (B : z_B S I J P K n.1) {S' : z_SH} {P' : z_MP} {n' : Nat × Nat} (hS' : z_St S') (hP' : z_Pt P') {nx : Nat → Nat} {dr : Nat → Nat → Nat} (hnx : ∀ g, nx g < 2147483648) (hdr : ∀ g m, 0 < m → dr g m < m) (Dr : ∀ (I : z_MI) (J : z_MJ) (g m : Nat), J 83 52 = z_z (g : Nat) → g < 2147483648 → 0 < m → m ≤ 1000000 → f_Mo_draws 83 (z_n m) (z_h S' I J P' n') = some (z_n (dr (nx g) m), z_h S' I (z_uj J 83 52 (z_z (nx g : Nat))) P' n')) {I0 : z_MI} {J0 : z_MJ} (cg0 : z_cg I J I0 J0) {g v t w o : Nat} (hg : g < 1000000) (hv : v ≤ 40) (ht : t < 4) (hw : w ≤ 30) (ho : o ≤ 10) : ∃ I' J', f_Mo_runs 83 (z_n g) (z_n v) (z_n t) (z_n w) (z_n o) (z_h S' I0 J0 P' n') = some ((), z_h S' I' J' P' n') ∧ z_mf I0 J0 I' J' ∧ (∀ j, ¬ j = 53 → ¬ j = 54 → I' 83 j = I0 83 j) ∧
    I' 83 53 = z_n (w_all nx dr I t w o g v).2.1 ∧ I' 83 54 = z_n (w_all nx dr I t w o g v).2.2 := by
  have key := z_runI (fun m i (Y : z_MI × z_MJ) => f_Mo_runs_L19 83 (z_n v) (z_n t) (z_n w) (z_n o) m (z_n i) (z_h S' Y.1 Y.2 P' n')) v
    (fun i Y => (z_mf I0 J0 Y.1 Y.2 ∧ ∀ j, ¬ j = 53 → ¬ j = 54 → Y.1 83 j = I0 83 j) ∧ Y.1 83 53 = z_n (w_all nx dr I t w o g i).2.1 ∧ Y.1 83 54 = z_n (w_all nx dr I t w o g i).2.2 ∧ Y.2 83 52 = z_z ((w_all nx dr I t w o g i).1 : Nat))
    (fun r => ∃ I' J', r = some ((), z_h S' I' J' P' n') ∧ z_mf I0 J0 I' J' ∧ (∀ j, ¬ j = 53 → ¬ j = 54 → I' 83 j = I0 83 j) ∧ I' 83 53 = z_n (w_all nx dr I t w o g v).2.1 ∧ I' 83 54 = z_n (w_all nx dr I t w o g v).2.2) (by omega)
    (by
      intro m i ⟨I1, J1⟩ hi ⟨⟨q1, q9⟩, q2, q3, q4⟩
      have W31 := w_all_lt (dr := dr) hnx (I := I) (t := t) (w := w) (o := o) (g := g) (by omega) i
      rw [show w_all nx dr I t w o g (i + 1) = w_house nx dr I t w o (w_all nx dr I t w o g i) from rfl]
      simp only at q1 q9 q2 q3 q4 ⊢
      generalize w_all nx dr I t w o g i = W at *
      have c6 : dr (nx W.1) 6 < 6 := hdr _ _ (by omega)
      have d0 := Dr I1 J1 W.1 6 q4 W31 (by omega) (by omega)
      have m0 : z_mf I1 J1 I1 (z_uj J1 83 52 (z_z (nx W.1 : Nat))) := z_mf.uj rfl
      generalize hc : dr (nx W.1) 6 + 1 = c at *
      obtain ⟨I2, J2, b1, b2, b3, b4, b5⟩ := M_kids B hS' hP' hnx hdr Dr ht (c := c) (by omega) (cg0.trans (q1.trans m0).cg) (g := nx W.1) (z_uj_s _ _ _ _) (hnx _) (z_n v) (z_n w) (z_n o) (z_n i)
      have ab := fun j (hj : j < c) => w_ag_b (nx := nx) hdr (nx W.1) (i := j) (by omega)
      obtain ⟨I3, J3, d1, d2, d3, d4, d5, d6⟩ := M_weds (S := S') (P := P') (I := I2) (J := J2) (n := n') hS' hP' hnx hdr Dr (ag := w_ag nx dr (nx W.1)) (gl := w_gl nx dr (nx W.1)) (al := w_al nx dr I t (nx W.1)) (w := w) (o := o) (c := c) (by omega) hw ho
        (fun j hj => ⟨(ab j hj).2, (b5 j hj).1⟩) (fun j hj => (b5 j hj).2.1) (X := ((w_st nx dr (nx W.1) c).1, (fun _ => false), W.2.1, W.2.2)) (fun j hj => by rw [(b5 j hj).2.2]; simp only [Bool.not_false, Bool.and_true]) (fun j h => by simp only at h; cases h) ((b3 53).trans q2) ((b3 54).trans q3) b4 (w_st_lt hnx _ (hnx _) _)
      refine ⟨(I3, J3), ⟨⟨((q1.trans m0).trans b2).trans d2, fun j h h' => ((d3 j h h').trans (b3 j)).trans (q9 j h h')⟩, ?_, ?_, ?_⟩, ?_⟩
      · unfold w_house; simp only; rw [hc]; exact d4
      · unfold w_house; simp only; rw [hc]; exact d5
      · unfold w_house; simp only; rw [hc]; exact d6
      · have b1' : f_Mo_runs_L42 83 (z_n v) (z_n t) (z_n w) (z_n o) (z_n i) (z_n c) q_FU (z_n 45) (z_n 0) (z_h S' I1 (z_uj J1 83 52 (z_z (nx W.1 : Nat))) P' n') = some ((), z_h S' I2 J2 P' n') := b1
        simp (disch := omega) only [f_Mo_runs_L19, z_Mr hS' hP', hi, d0, hc, b1', d1, or_true, true_or, or_false, false_or, z_b_T, z_b_F, Bool.false_eq_true, Classical.not_not, decide_eq_true_eq, z_sq, Option.bind_some, z_lits, z_n_add, z_n_mul, z_lt, z_le, z_eq, z_ne1, z_1ne, z_lt1, z_1lt, z_ltT, z_ltF, z_leT, z_leF, z_eqF, z_b_0, z_b_1, ↓reduceIte, eq_self, not_true_eq_false, not_false_eq_true, and_true, true_and, and_false, false_and, Nat.add_zero, Nat.zero_add])
    (by
      intro m ⟨I1, J1⟩ ⟨⟨q1, q9⟩, q2, q3, q4⟩
      simp only at q1 q9 q2 q3 q4 ⊢
      refine ⟨I1, J1, ?_, q1, q9, q2, q3⟩
      simp (disch := omega) only [f_Mo_runs_L19, Nat.lt_irrefl, or_true, true_or, or_false, false_or, z_b_T, z_b_F, Bool.false_eq_true, Classical.not_not, decide_eq_true_eq, z_sq, Option.bind_some, z_lits, z_n_add, z_n_mul, z_lt, z_le, z_eq, z_ne1, z_1ne, z_lt1, z_1lt, z_ltT, z_ltF, z_leT, z_leF, z_eqF, z_b_0, z_b_1, ↓reduceIte, eq_self, not_true_eq_false, not_false_eq_true, and_true, true_and, and_false, false_and, Nat.add_zero, Nat.zero_add])
    (x := (z_up (z_up I0 83 53 (z_n 0)) 83 54 (z_n 0), z_uj J0 83 52 (z_z (g : Nat)))) (by
      refine ⟨⟨((z_mf.up rfl).trans (z_mf.up rfl)).trans (z_mf.uj rfl), fun j h h' => ?_⟩, ?_, ?_, ?_⟩
      · show z_up (z_up I0 83 53 (z_n 0)) 83 54 (z_n 0) 83 j = _
        rw [z_up_i h', z_up_i h]
      · show z_up (z_up I0 83 53 (z_n 0)) 83 54 (z_n 0) 83 53 = _
        rw [z_up_i (by omega), z_up_s]; rfl
      · show z_up (z_up I0 83 53 (z_n 0)) 83 54 (z_n 0) 83 54 = _
        rw [z_up_s]; rfl
      · show z_uj J0 83 52 (z_z (g : Nat)) 83 52 = _
        rw [z_uj_s]; rfl)
  obtain ⟨I', J', e1, e2⟩ := key
  refine ⟨I', J', ?_, e2⟩
  have gc : (z_n g).toInt64 = z_z (g : Nat) := z_cast (by omega)
  simp (disch := omega) only [f_Mo_runs, z_Mw hS', gc, e1, or_true, true_or, or_false, false_or, z_b_T, z_b_F, Bool.false_eq_true, Classical.not_not, decide_eq_true_eq, z_sq, Option.bind_some, z_lits, z_n_add, z_n_mul, z_lt, z_le, z_eq, z_ne1, z_1ne, z_lt1, z_1lt, z_ltT, z_ltF, z_leT, z_leF, z_eqF, z_b_0, z_b_1, ↓reduceIte, eq_self, not_true_eq_false, not_false_eq_true, and_true, true_and, and_false, false_and, Nat.add_zero, Nat.zero_add]
theorem w_in {b : Int32} {N : Nat} (hN : N < 1000000) : (∃ k, 1 ≤ k ∧ k ≤ N ∧ b = z_n k) ∨ ¬ (¬ b < z_n 1 ∧ ¬ z_n N < b) := by
  by_cases h : ¬ b < z_n 1 ∧ ¬ z_n N < b
  · exact Or.inl ((z_wi9 hN).1 h)
  · exact Or.inr h
theorem w_from1 {k N : Nat} {σ : q_H} (h1 : 1 ≤ k) (h2 : k ≤ N) (hN : N < 1000000) : f_Rs_isFrom (z_n 1) (z_n k) (z_n N) σ = some (z_n 1, σ) ∧ f_Mo_within (z_n k) (z_n 1) (z_n N) σ = some (z_n 1, σ) := by
  have h : (¬ z_n k < z_n 1 ∧ ¬ z_n N < z_n k) = True := eq_true ((z_wi9 hN).2 ⟨k, h1, h2, rfl⟩)
  rw [C_isFrom, M_within]; simp only [h, z_b_T]; exact ⟨trivial, trivial⟩
theorem w_from0 {b : Int32} {N : Nat} {σ : q_H} (h : ¬ (¬ b < z_n 1 ∧ ¬ z_n N < b)) : f_Rs_isFrom (z_n 1) b (z_n N) σ = some (z_n 0, σ) ∧ f_Mo_within b (z_n 1) (z_n N) σ = some (z_n 0, σ) := by
  have h : (¬ b < z_n 1 ∧ ¬ z_n N < b) = False := eq_false h
  rw [C_isFrom, M_within]; simp only [h, z_b_F]; exact ⟨trivial, trivial⟩
/-- what may be asked of a world -/
def w_ok (v t w o : Int32) : Prop := ∃ v' t' w' o', (1 ≤ v' ∧ v' ≤ 40) ∧ t' ≤ 3 ∧ w' ≤ 30 ∧ o' ≤ 10 ∧ v = z_n v' ∧ t = z_n t' ∧ w = z_n w' ∧ o = z_n o'
set_option maxRecDepth 100000 in
set_option maxHeartbeats 4000000 in
theorem w_is (v t w o : Int32) : (w_ok v t w o ∧ (∀ σ, f_Rs_isWorld v t w o σ = some (z_n 1, σ)) ∧ ∀ σ, f_Mo_isWorld v t w o σ = some (z_n 1, σ)) ∨ ((∀ σ, f_Rs_isWorld v t w o σ = some (z_n 0, σ)) ∧ ∀ σ, f_Mo_isWorld v t w o σ = some (z_n 0, σ)) := by
  rcases w_in (b := v) (N := 40) (by omega) with ⟨v', hv1, hv2, rfl⟩ | hv
  rotate_left
  · have e1 := fun σ => (w_from0 (σ := σ) hv).1
    have e2 := fun σ => (w_from0 (σ := σ) hv).2
    refine Or.inr ⟨?_, ?_⟩
    · intro σ; simp (disch := omega) only [f_Rs_isWorld, e1, or_true, true_or, or_false, false_or, z_b_T, z_b_F, Bool.false_eq_true, Classical.not_not, decide_eq_true_eq, z_sq, Option.bind_some, z_lits, z_n_add, z_n_mul, z_lt, z_le, z_eq, z_ne1, z_1ne, z_lt1, z_1lt, z_ltT, z_ltF, z_leT, z_leF, z_eqF, z_b_0, z_b_1, ↓reduceIte, eq_self, not_true_eq_false, not_false_eq_true, and_true, true_and, and_false, false_and, Nat.add_zero, Nat.zero_add]
    · intro σ; simp (disch := omega) only [f_Mo_isWorld, e2, or_true, true_or, or_false, false_or, z_b_T, z_b_F, Bool.false_eq_true, Classical.not_not, decide_eq_true_eq, z_sq, Option.bind_some, z_lits, z_n_add, z_n_mul, z_lt, z_le, z_eq, z_ne1, z_1ne, z_lt1, z_1lt, z_ltT, z_ltF, z_leT, z_leF, z_eqF, z_b_0, z_b_1, ↓reduceIte, eq_self, not_true_eq_false, not_false_eq_true, and_true, true_and, and_false, false_and, Nat.add_zero, Nat.zero_add]
  have e1 := fun σ => (w_from1 (σ := σ) hv1 hv2 (show 40 < 1000000 by omega)).1
  have e2 := fun σ => (w_from1 (σ := σ) hv1 hv2 (show 40 < 1000000 by omega)).2
  rcases z_in t 3 (by omega) with ⟨t', ht, rfl⟩ | ht
  rotate_left
  · refine Or.inr ⟨?_, ?_⟩
    · intro σ; simp (disch := omega) only [f_Rs_isWorld, e1, C_isTable_o ht, or_true, true_or, or_false, false_or, z_b_T, z_b_F, Bool.false_eq_true, Classical.not_not, decide_eq_true_eq, z_sq, Option.bind_some, z_lits, z_n_add, z_n_mul, z_lt, z_le, z_eq, z_ne1, z_1ne, z_lt1, z_1lt, z_ltT, z_ltF, z_leT, z_leF, z_eqF, z_b_0, z_b_1, ↓reduceIte, eq_self, not_true_eq_false, not_false_eq_true, and_true, true_and, and_false, false_and, Nat.add_zero, Nat.zero_add]
    · intro σ; simp (disch := omega) only [f_Mo_isWorld, e2, M_isTable_o ht, or_true, true_or, or_false, false_or, z_b_T, z_b_F, Bool.false_eq_true, Classical.not_not, decide_eq_true_eq, z_sq, Option.bind_some, z_lits, z_n_add, z_n_mul, z_lt, z_le, z_eq, z_ne1, z_1ne, z_lt1, z_1lt, z_ltT, z_ltF, z_leT, z_leF, z_eqF, z_b_0, z_b_1, ↓reduceIte, eq_self, not_true_eq_false, not_false_eq_true, and_true, true_and, and_false, false_and, Nat.add_zero, Nat.zero_add]
  rcases z_in w 30 (by omega) with ⟨w', hw, rfl⟩ | hw
  rotate_left
  · refine Or.inr ⟨?_, ?_⟩
    · intro σ; simp (disch := omega) only [f_Rs_isWorld, e1, C_isTable ht, C_out hw, or_true, true_or, or_false, false_or, z_b_T, z_b_F, Bool.false_eq_true, Classical.not_not, decide_eq_true_eq, z_sq, Option.bind_some, z_lits, z_n_add, z_n_mul, z_lt, z_le, z_eq, z_ne1, z_1ne, z_lt1, z_1lt, z_ltT, z_ltF, z_leT, z_leF, z_eqF, z_b_0, z_b_1, ↓reduceIte, eq_self, not_true_eq_false, not_false_eq_true, and_true, true_and, and_false, false_and, Nat.add_zero, Nat.zero_add]
    · intro σ; simp (disch := omega) only [f_Mo_isWorld, e2, M_isTable ht, M_wout hw, or_true, true_or, or_false, false_or, z_b_T, z_b_F, Bool.false_eq_true, Classical.not_not, decide_eq_true_eq, z_sq, Option.bind_some, z_lits, z_n_add, z_n_mul, z_lt, z_le, z_eq, z_ne1, z_1ne, z_lt1, z_1lt, z_ltT, z_ltF, z_leT, z_leF, z_eqF, z_b_0, z_b_1, ↓reduceIte, eq_self, not_true_eq_false, not_false_eq_true, and_true, true_and, and_false, false_and, Nat.add_zero, Nat.zero_add]
  rcases z_in o 10 (by omega) with ⟨o', ho, rfl⟩ | ho
  rotate_left
  · refine Or.inr ⟨?_, ?_⟩
    · intro σ; simp (disch := omega) only [f_Rs_isWorld, e1, C_isTable ht, C_in, C_out ho, or_true, true_or, or_false, false_or, z_b_T, z_b_F, Bool.false_eq_true, Classical.not_not, decide_eq_true_eq, z_sq, Option.bind_some, z_lits, z_n_add, z_n_mul, z_lt, z_le, z_eq, z_ne1, z_1ne, z_lt1, z_1lt, z_ltT, z_ltF, z_leT, z_leF, z_eqF, z_b_0, z_b_1, ↓reduceIte, eq_self, not_true_eq_false, not_false_eq_true, and_true, true_and, and_false, false_and, Nat.add_zero, Nat.zero_add]
    · intro σ; simp (disch := omega) only [f_Mo_isWorld, e2, M_isTable ht, M_win, M_wout ho, or_true, true_or, or_false, false_or, z_b_T, z_b_F, Bool.false_eq_true, Classical.not_not, decide_eq_true_eq, z_sq, Option.bind_some, z_lits, z_n_add, z_n_mul, z_lt, z_le, z_eq, z_ne1, z_1ne, z_lt1, z_1lt, z_ltT, z_ltF, z_leT, z_leF, z_eqF, z_b_0, z_b_1, ↓reduceIte, eq_self, not_true_eq_false, not_false_eq_true, and_true, true_and, and_false, false_and, Nat.add_zero, Nat.zero_add]
  refine Or.inl ⟨⟨v', t', w', o', ⟨hv1, hv2⟩, ht, hw, ho, rfl, rfl, rfl, rfl⟩, ?_, ?_⟩
  · intro σ; simp (disch := omega) only [f_Rs_isWorld, e1, C_isTable ht, C_in, or_true, true_or, or_false, false_or, z_b_T, z_b_F, Bool.false_eq_true, Classical.not_not, decide_eq_true_eq, z_sq, Option.bind_some, z_lits, z_n_add, z_n_mul, z_lt, z_le, z_eq, z_ne1, z_1ne, z_lt1, z_1lt, z_ltT, z_ltF, z_leT, z_leF, z_eqF, z_b_0, z_b_1, ↓reduceIte, eq_self, not_true_eq_false, not_false_eq_true, and_true, true_and, and_false, false_and, Nat.add_zero, Nat.zero_add]
  · intro σ; simp (disch := omega) only [f_Mo_isWorld, e2, M_isTable ht, M_win, or_true, true_or, or_false, false_or, z_b_T, z_b_F, Bool.false_eq_true, Classical.not_not, decide_eq_true_eq, z_sq, Option.bind_some, z_lits, z_n_add, z_n_mul, z_lt, z_le, z_eq, z_ne1, z_1ne, z_lt1, z_1lt, z_ltT, z_ltF, z_leT, z_leF, z_eqF, z_b_0, z_b_1, ↓reduceIte, eq_self, not_true_eq_false, not_false_eq_true, and_true, true_and, and_false, false_and, Nat.add_zero, Nat.zero_add]
end
