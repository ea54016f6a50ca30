/-! WORLDS: who weds, the reference. -/
theorem w_weds_g {nx : Nat → Nat} {dr : Nat → Nat → Nat} {ag : Nat → Nat} {gl al : Nat → Bool} {w o c : Nat} {X : w_W} (hX : ∀ j, X.2.1 j = true → gl j = true) : ∀ i j, (w_weds nx dr ag gl al w o c X i).2.1 j = true → gl j = true
  | 0, j => hX j
  | i + 1, j => by
    have ih := w_weds_g (nx := nx) (dr := dr) (ag := ag) (al := al) (w := w) (o := o) (c := c) hX i
    rw [w_weds, w_step]
    generalize w_weds nx dr ag gl al w o c X i = W at *
    split
    · split
      · rename_i hs
        split
        · intro h
          simp only at h
          by_cases hj : j = w_who ag gl al W.2.1 w c i
          · have is := z_ff_is _ _ hs
            change w_can ag gl al W.2.1 w i (w_who ag gl al W.2.1 w c i) = true at is
            rw [← hj] at is
            unfold w_can at is
            simp only [Bool.and_eq_true] at is
            exact is.1.1.1
          · rw [if_neg hj] at h; exact ih j h
        · exact ih j
      · exact ih j
    · exact ih j
section
variable {S : z_SH} {I : z_MI} {J : z_MJ} {P : z_MP} {K : Nat → Bool} {n : Nat × Nat}
set_option maxRecDepth 100000 in
set_option maxHeartbeats 4000000 in
theorem M_weds (hS : z_St S) (hP : z_Pt P) {nx : Nat → Nat} {dr : Nat → Nat → Nat} (hnx : ∀ g, nx g < 2147483648) (hdr : ∀ g m, 0 < m → dr g m < m) (Dr : ∀ (I : z_MI) (J : z_MJ) (g m : Nat), J 83 52 = z_z (g : Nat) → g < 2147483648 → 0 < m → m ≤ 1000000 → f_Mo_draws 83 (z_n m) (z_h S I J P n) = some (z_n (dr (nx g) m), z_h S I (z_uj J 83 52 (z_z (nx g : Nat))) P n)) {ag : Nat → Nat} {gl al : Nat → Bool} {w o c : Nat} (hc : c ≤ 6) (hw : w ≤ 30) (ho : o ≤ 10) (hag : ∀ j, j < c → ag j ≤ 45 ∧ I 120 j = z_n (ag j)) (hgl : ∀ j, j < c → I 121 j = z_b (gl j = true)) {X : w_W} (hfr : ∀ j, j < c → I 122 j = z_b ((al j && !X.2.1 j) = true)) (hX : ∀ j, X.2.1 j = true → gl j = true) (h0 : I 83 53 = z_n X.2.2.1) (h1 : I 83 54 = z_n X.2.2.2) (hg : J 83 52 = z_z (X.1 : Nat)) (h31 : X.1 < 2147483648) :
    ∃ I' J', f_Mo_weds 83 (z_n c) (z_n w) (z_n o) (z_h S I J P n) = some ((), z_h S I' J' P n) ∧ z_mf I J I' J' ∧ (∀ j, ¬ j = 53 → ¬ j = 54 → I' 83 j = I 83 j) ∧ I' 83 53 = z_n (w_weds nx dr ag gl al w o c X c).2.2.1 ∧ I' 83 54 = z_n (w_weds nx dr ag gl al w o c X c).2.2.2 ∧ J' 83 52 = z_z ((w_weds nx dr ag gl al w o c X c).1 : Nat) := by
  have key := z_runI (fun m i (Y : z_MI × z_MJ) => f_Mo_weds_L3 83 (z_n c) (z_n w) (z_n o) m (z_n i) (z_h S Y.1 Y.2 P n)) c
    (fun i Y => (z_mf I J Y.1 Y.2 ∧ Y.1 120 = I 120 ∧ Y.1 121 = I 121 ∧ ∀ j, ¬ j = 53 → ¬ j = 54 → Y.1 83 j = I 83 j) ∧ Y.1 83 53 = z_n (w_weds nx dr ag gl al w o c X i).2.2.1 ∧ Y.1 83 54 = z_n (w_weds nx dr ag gl al w o c X i).2.2.2 ∧ Y.2 83 52 = z_z ((w_weds nx dr ag gl al w o c X i).1 : Nat) ∧ ∀ j, j < c → Y.1 122 j = z_b ((al j && !(w_weds nx dr ag gl al w o c X i).2.1 j) = true))
    (fun r => ∃ I' J', r = some ((), z_h S I' J' P n) ∧ z_mf I J I' J' ∧ (∀ j, ¬ j = 53 → ¬ j = 54 → I' 83 j = I 83 j) ∧ I' 83 53 = z_n (w_weds nx dr ag gl al w o c X c).2.2.1 ∧ I' 83 54 = z_n (w_weds nx dr ag gl al w o c X c).2.2.2 ∧ J' 83 52 = z_z ((w_weds nx dr ag gl al w o c X c).1 : Nat)) (by omega)
    (by
      intro m i ⟨I1, J1⟩ hi ⟨⟨q1, q7, q8, q9⟩, q3, q4, q5, q6⟩
      have W31 := w_weds_lt (dr := dr) hnx (ag := ag) (gl := gl) (al := al) (w := w) (o := o) (c := c) h31 i
      have Wg := w_weds_g (nx := nx) (dr := dr) (ag := ag) (gl := gl) (al := al) (w := w) (o := o) (c := c) hX i i
      rw [show w_weds nx dr ag gl al w o c X (i + 1) = w_step nx dr ag gl al w o c (w_weds nx dr ag gl al w o c X i) i from rfl]
      simp only at q1 q7 q8 q9 q3 q4 q5 q6 ⊢
      generalize w_weds nx dr ag gl al w o c X i = W at *
      obtain ⟨a1, a2⟩ := hag i hi
      have g1 := hgl i hi
      have l1 := q6 i hi
      rw [← q7] at a2
      rw [← q8] at g1
      cases hgi : gl i
      rotate_left
      · simp only [hgi, eq_self, z_b_T] at g1
        refine ⟨(I1, J1), ⟨by rw [w_step, if_neg (by unfold w_bro; rw [hgi]; simp)]; exact ⟨⟨q1, q7, q8, q9⟩, q3, q4, q5, q6⟩, ?_⟩⟩
        simp (disch := omega) only [f_Mo_weds_L3, z_Mr hS hP, g1, or_true, true_or, or_false, false_or, z_b_T, z_b_F, Bool.false_eq_true, Classical.not_not, decide_eq_true_eq, z_sq, Option.bind_some, z_lits, z_n_add, z_n_mul, z_lt, z_le, z_eq, z_ne1, z_1ne, z_lt1, z_1lt, z_ltT, z_ltF, z_leT, z_leF, z_eqF, z_b_0, z_b_1, ↓reduceIte, eq_self, not_true_eq_false, not_false_eq_true, and_true, true_and, and_false, false_and, Nat.add_zero, Nat.zero_add]
      have hmi : W.2.1 i = false := by
        cases h : W.2.1 i with
        | false => rfl
        | true => rw [Wg h] at hgi; cases hgi
      simp only [hgi, Bool.false_eq_true, z_b_F] at g1
      cases hai : al i
      · simp only [hai, Bool.false_and, Bool.false_eq_true, z_b_F] at l1
        refine ⟨(I1, J1), ⟨by rw [w_step, if_neg (by unfold w_bro; rw [hgi, hai]; simp)]; exact ⟨⟨q1, q7, q8, q9⟩, q3, q4, q5, q6⟩, ?_⟩⟩
        simp (disch := omega) only [f_Mo_weds_L3, z_Mr hS hP, g1, l1, or_true, true_or, or_false, false_or, z_b_T, z_b_F, Bool.false_eq_true, Classical.not_not, decide_eq_true_eq, z_sq, Option.bind_some, z_lits, z_n_add, z_n_mul, z_lt, z_le, z_eq, z_ne1, z_1ne, z_lt1, z_1lt, z_ltT, z_ltF, z_leT, z_leF, z_eqF, z_b_0, z_b_1, ↓reduceIte, eq_self, not_true_eq_false, not_false_eq_true, and_true, true_and, and_false, false_and, Nat.add_zero, Nat.zero_add]
      simp only [hai, hmi, Bool.not_false, Bool.and_true, eq_self, z_b_T] at l1
      by_cases h15 : ag i < 15
      · refine ⟨(I1, J1), ⟨by rw [w_step, if_neg (by unfold w_bro; rw [hgi, hai, decide_eq_false (by omega)]; simp)]; exact ⟨⟨q1, q7, q8, q9⟩, q3, q4, q5, q6⟩, ?_⟩⟩
        simp (disch := omega) only [f_Mo_weds_L3, z_Mr hS hP, g1, l1, a2, h15, or_true, true_or, or_false, false_or, z_b_T, z_b_F, Bool.false_eq_true, Classical.not_not, decide_eq_true_eq, z_sq, Option.bind_some, z_lits, z_n_add, z_n_mul, z_lt, z_le, z_eq, z_ne1, z_1ne, z_lt1, z_1lt, z_ltT, z_ltF, z_leT, z_leF, z_eqF, z_b_0, z_b_1, ↓reduceIte, eq_self, not_true_eq_false, not_false_eq_true, and_true, true_and, and_false, false_and, Nat.add_zero, Nat.zero_add]
      have hb : w_bro ag gl al i = true := by unfold w_bro; rw [hgi, hai, decide_eq_true (by omega)]; rfl
      rw [w_step, if_pos hb]
      have who := M_who (S := S) (I := I1) (J := J1) (P := P) (n := n) hS hP (ag := ag) (gl := gl) (al := al) (md := W.2.1) (w := w) (c := c) (i := i) hc hi hw
        (fun j hj => ⟨(hag j hj).1, by rw [q7]; exact (hag j hj).2⟩) (fun j hj => by rw [q8]; exact hgl j hj) q6 (z_n c) (z_n o) c q_FU (-z_n 1) (Nat.le_refl _) (by rw [z_FU]; omega)
      rw [show z_ff (w_can ag gl al W.2.1 w i) c = w_who ag gl al W.2.1 w c i from rfl] at who
      by_cases hs : w_who ag gl al W.2.1 w c i < c
      rotate_left
      · rw [if_neg hs] at who ⊢
        have m1 : z_mf I1 J1 (z_up I1 83 53 (z_n (W.2.2.1 + 1))) J1 := z_mf.up rfl
        refine ⟨(z_up I1 83 53 (z_n (W.2.2.1 + 1)), J1), ⟨⟨q1.trans m1, ?_, ?_, fun j h h' => ?_⟩, ?_, ?_, q5, fun j hj => ?_⟩, ?_⟩
        · show z_up I1 83 53 (z_n (W.2.2.1 + 1)) 120 = _
          rw [z_up_r (by omega)]; exact q7
        · show z_up I1 83 53 (z_n (W.2.2.1 + 1)) 121 = _
          rw [z_up_r (by omega)]; exact q8
        · show z_up I1 83 53 (z_n (W.2.2.1 + 1)) 83 j = _
          rw [z_up_i h]; exact q9 j h h'
        · show z_up I1 83 53 (z_n (W.2.2.1 + 1)) 83 53 = z_n (W.2.2.1 + 1)
          exact z_up_s _ _ _ _
        · show z_up I1 83 53 (z_n (W.2.2.1 + 1)) 83 54 = _
          rw [z_up_i (by omega)]; exact q4
        · show z_up I1 83 53 (z_n (W.2.2.1 + 1)) 122 j = _
          rw [z_up_a (by omega)]; exact q6 j hj
        · simp (disch := omega) only [f_Mo_weds_L3, z_Mr hS hP, z_Mw hS, q3, g1, l1, a2, h15, who, or_true, true_or, or_false, false_or, z_b_T, z_b_F, Bool.false_eq_true, Classical.not_not, decide_eq_true_eq, z_sq, Option.bind_some, z_lits, z_n_add, z_n_mul, z_lt, z_le, z_eq, z_ne1, z_1ne, z_lt1, z_1lt, z_ltT, z_ltF, z_leT, z_leF, z_eqF, z_b_0, z_b_1, ↓reduceIte, eq_self, not_true_eq_false, not_false_eq_true, and_true, true_and, and_false, false_and, Nat.add_zero, Nat.zero_add]
      rw [if_pos hs] at who ⊢
      have d := Dr (z_up I1 83 53 (z_n (W.2.2.1 + 1))) J1 W.1 10 q5 W31 (by omega) (by omega)
      have dl := hdr (nx W.1) 10 (by omega)
      have e3 : z_up I1 83 53 (z_n (W.2.2.1 + 1)) 83 54 = z_n W.2.2.2 := by rw [z_up_i (by omega)]; exact q4
      have e3' : z_up (z_up I1 83 53 (z_n (W.2.2.1 + 1))) 122 (w_who ag gl al W.2.1 w c i) (z_n 0) 83 54 = z_n W.2.2.2 := by rw [z_up_a (by omega)]; exact e3
      by_cases hd : dr (nx W.1) 10 < o
      · rw [if_pos hd]
        generalize w_who ag gl al W.2.1 w c i = s at *
        have m1 : z_mf I1 J1 (z_up (z_up (z_up I1 83 53 (z_n (W.2.2.1 + 1))) 122 s (z_n 0)) 83 54 (z_n (W.2.2.2 + 1))) (z_uj J1 83 52 (z_z (nx W.1 : Nat))) := (((z_mf.up rfl).trans (z_mf.up rfl)).trans (z_mf.up rfl)).trans (z_mf.uj rfl)
        refine ⟨(z_up (z_up (z_up I1 83 53 (z_n (W.2.2.1 + 1))) 122 s (z_n 0)) 83 54 (z_n (W.2.2.2 + 1)), z_uj J1 83 52 (z_z (nx W.1 : Nat))), ⟨⟨q1.trans m1, ?_, ?_, fun j h h' => ?_⟩, ?_, ?_, ?_, fun j hj => ?_⟩, ?_⟩
        · simp only
          rw [z_up_r (by omega), z_up_r (by omega), z_up_r (by omega)]; exact q7
        · simp only
          rw [z_up_r (by omega), z_up_r (by omega), z_up_r (by omega)]; exact q8
        · simp only
          rw [z_up_i h', z_up_a (by omega), z_up_i h]; exact q9 j h h'
        · simp only
          rw [z_up_i (by omega), z_up_a (by omega), z_up_s]
        · simp only
          rw [z_up_s]
        · simp only
          rw [z_uj_s]
        · simp only
          rw [z_up_a (by omega)]
          by_cases hjs : j = s
          · subst hjs
            rw [z_up_s]; simp only [↓reduceIte, Bool.not_true, Bool.and_false, Bool.false_eq_true, z_b_F]
          · rw [z_up_i hjs, z_up_a (by omega)]; simp only [hjs, ↓reduceIte]; exact q6 j hj
        · simp (disch := omega) only [f_Mo_weds_L3, z_Mr hS hP, z_Mw hS, q3, g1, l1, a2, h15, who, d, hd, e3', or_true, true_or, or_false, false_or, z_b_T, z_b_F, Bool.false_eq_true, Classical.not_not, decide_eq_true_eq, z_sq, Option.bind_some, z_lits, z_n_add, z_n_mul, z_lt, z_le, z_eq, z_ne1, z_1ne, z_lt1, z_1lt, z_ltT, z_ltF, z_leT, z_leF, z_eqF, z_b_0, z_b_1, ↓reduceIte, eq_self, not_true_eq_false, not_false_eq_true, and_true, true_and, and_false, false_and, Nat.add_zero, Nat.zero_add]
      · rw [if_neg hd]
        generalize w_who ag gl al W.2.1 w c i = s at *
        have m1 : z_mf I1 J1 (z_up I1 83 53 (z_n (W.2.2.1 + 1))) (z_uj J1 83 52 (z_z (nx W.1 : Nat))) := (z_mf.up rfl).trans (z_mf.uj rfl)
        refine ⟨(z_up I1 83 53 (z_n (W.2.2.1 + 1)), z_uj J1 83 52 (z_z (nx W.1 : Nat))), ⟨⟨q1.trans m1, ?_, ?_, fun j h h' => ?_⟩, ?_, ?_, ?_, fun j hj => ?_⟩, ?_⟩
        · simp only
          rw [z_up_r (by omega)]; exact q7
        · simp only
          rw [z_up_r (by omega)]; exact q8
        · simp only
          rw [z_up_i h]; exact q9 j h h'
        · simp only
          rw [z_up_s]
        · simp only
          rw [z_up_i (by omega)]; exact q4
        · simp only
          rw [z_uj_s]
        · simp only
          rw [z_up_a (by omega)]; exact q6 j hj
        · simp (disch := omega) only [f_Mo_weds_L3, z_Mr hS hP, z_Mw hS, q3, g1, l1, a2, h15, who, d, hd, or_true, true_or, or_false, false_or, z_b_T, z_b_F, Bool.false_eq_true, Classical.not_not, decide_eq_true_eq, z_sq, Option.bind_some, z_lits, z_n_add, z_n_mul, z_lt, z_le, z_eq, z_ne1, z_1ne, z_lt1, z_1lt, z_ltT, z_ltF, z_leT, z_leF, z_eqF, z_b_0, z_b_1, ↓reduceIte, eq_self, not_true_eq_false, not_false_eq_true, and_true, true_and, and_false, false_and, Nat.add_zero, Nat.zero_add])
    (by
      intro m ⟨I1, J1⟩ ⟨⟨q1, q7, q8, q9⟩, q3, q4, q5, q6⟩
      simp only at q1 q3 q4 q5 q6 q7 q8 q9 ⊢
      refine ⟨I1, J1, ?_, q1, q9, q3, q4, q5⟩
      simp (disch := omega) only [f_Mo_weds_L3, z_Mr hS hP, or_true, true_or, or_false, false_or, z_b_T, z_b_F, Bool.false_eq_true, Classical.not_not, decide_eq_true_eq, z_sq, Option.bind_some, z_lits, z_n_add, z_n_mul, z_lt, z_le, z_eq, z_ne1, z_1ne, z_lt1, z_1lt, z_ltT, z_ltF, z_leT, z_leF, z_eqF, z_b_0, z_b_1, ↓reduceIte, eq_self, not_true_eq_false, not_false_eq_true, and_true, true_and, and_false, false_and, Nat.add_zero, Nat.zero_add])
    (x := (I, J)) ⟨⟨z_mf.refl _ _, rfl, rfl, fun _ _ _ => rfl⟩, h0, h1, hg, hfr⟩
  obtain ⟨I', J', e1, e2⟩ := key
  refine ⟨I', J', ?_, e2⟩
  unfold f_Mo_weds
  rw [show (0 : Int32) = z_n 0 from rfl, e1, z_sq]
end
