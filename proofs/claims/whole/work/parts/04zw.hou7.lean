/-! ONE HOUSES: the reference. -/
section
variable {S S' : z_SH} {I Y : z_MI} {J JY : z_MJ} {P P' : z_MP} {K : Nat → Bool} {n n' : Nat × Nat}
theorem M_one (B : z_B S I J P K n.1) (hS' : z_St S') (hP' : z_Pt P') (c : z_cg I J Y JY) {s t a : Nat} (hs : s < 24) (ht : t < 24) (hth : z_th I s = true) (ha : a < z_ln I s) : f_Mo_oneOf 83 (z_n s) (z_n a) (z_n t) (z_h S' Y JY P' n') = some ((if h_on I J s t a < z_ln I t then z_n (h_on I J s t a) else -z_n 1), z_h S' Y JY P' n') := by
  have m := M_oneOf (n := n') hS' hP' (z_lL_c c B.qL) hs ht (by rw [z_Ds_c c]; exact B.qD hs) (a := a) (by rw [z_Ds_c c]; exact ha)
  rw [u_one_c c, h_u1 hth] at m
  exact m
theorem M_fbX (B : z_B S I J P K n.1) (hS' : z_St S') (hP' : z_Pt P') (c : z_cg I J Y JY) {s l : Nat} (hs : s < 24) (hl : l < 12) : f_Mo_firstBorn 83 (z_n s) (z_n l) (z_h S' Y JY P' n') = some (h_fb I J s l, z_h S' Y JY P' n') ∧ f_Mo_lastBorn 83 (z_n s) (z_n l) (z_h S' Y JY P' n') = some (h_lb I J s l, z_h S' Y JY P' n') := by
  have m := M_fb (n := n') (J := JY) (I := Y) hS' hP' hs hl
  rw [z_Ds_c c, c.i 88 rfl] at m
  exact m
set_option maxRecDepth 100000 in
set_option maxHeartbeats 4000000 in
theorem M_knows (B : z_B S I J P K n.1) (hS' : z_St S') (hP' : z_Pt P') (c : z_cg I J Y JY) {s a : Nat} (hs : s < 24) (hth : z_th I s = true) (ha : a < z_ln I s) : ∃ Z, f_Mo_knows 83 (z_n s) (z_n a) (z_h S' Y JY P' n') = some ((), z_h S' Z JY P' n') ∧ z_mf Y JY Z JY ∧ (∀ b, b ≠ 83 → Z b = Y b) ∧ Z 83 0 = Y 83 0 ∧ Z 83 28 = h_kf I J s a 24 ∧ Z 83 29 = h_kl I J s a 24 := by
  have l12 : z_ln I s ≤ 12 := (B.qD hs).1
  have hob := fun I J => z_ob (I := I) (J := J) (P := P') (n := n') (s_83 hS')
  have m1 : z_mf Y JY (z_up Y 83 28 (h_fb I J s a)) JY := z_mf.up rfl
  have m2 : z_mf Y JY (z_up (z_up Y 83 28 (h_fb I J s a)) 83 29 (h_lb I J s a)) JY := m1.trans (z_mf.up rfl)
  have f1 := (M_fbX (n' := n') B hS' hP' c hs (show a < 12 by omega)).1
  have f2 := (M_fbX (n' := n') B hS' hP' (c.trans m1.cg) hs (show a < 12 by omega)).2
  obtain ⟨Z, a1, a2, a3, a0, a4, a5⟩ : ∃ Z, f_Mo_knows_L22 83 (z_n s) (z_n a) q_FU (z_n 0) (z_h S' (z_up (z_up Y 83 28 (h_fb I J s a)) 83 29 (h_lb I J s a)) JY P' n') = some ((), z_h S' Z JY P' n') ∧ z_mf Y JY Z JY ∧ (∀ b, b ≠ 83 → Z b = Y b) ∧ Z 83 0 = Y 83 0 ∧ Z 83 28 = h_kf I J s a 24 ∧ Z 83 29 = h_kl I J s a 24 :=
    z_runI (fun m t (Z : z_MI) => f_Mo_knows_L22 83 (z_n s) (z_n a) m (z_n t) (z_h S' Z JY P' n')) 24
    (fun t Z => z_mf Y JY Z JY ∧ (∀ b, b ≠ 83 → Z b = Y b) ∧ Z 83 0 = Y 83 0 ∧ Z 83 28 = h_kf I J s a t ∧ Z 83 29 = h_kl I J s a t)
    (fun q => ∃ Z, q = some ((), z_h S' Z JY P' n') ∧ z_mf Y JY Z JY ∧ (∀ b, b ≠ 83 → Z b = Y b) ∧ Z 83 0 = Y 83 0 ∧ Z 83 28 = h_kf I J s a 24 ∧ Z 83 29 = h_kl I J s a 24) (by omega)
    (by
      intro m t Z ht ⟨q1, q2, q0, q3, q4⟩
      have cZ := c.trans q1.cg
      have o := M_one (n' := n') B hS' hP' cZ hs ht hth ha
      have t12 : z_ln I t ≤ 12 := (B.qD ht).1
      by_cases hj : h_on I J s t a < z_ln I t
      · rw [if_pos hj] at o
        have g1 : h_kf I J s a (t + 1) = if Z 83 28 < h_fb I J t (h_on I J s t a) then h_fb I J t (h_on I J s t a) else Z 83 28 := by rw [h_kf, if_pos hj, q3]
        have g2 : h_kl I J s a (t + 1) = if h_lb I J t (h_on I J s t a) < Z 83 29 then h_lb I J t (h_on I J s t a) else Z 83 29 := by rw [h_kl, if_pos hj, q4]
        generalize h_on I J s t a = j at *
        have f3 := (M_fbX (n' := n') B hS' hP' cZ ht (show j < 12 by omega)).1
        have m3 : z_mf Y JY (z_up Z 83 28 (h_kf I J s a (t + 1))) JY := q1.trans (z_mf.up rfl)
        have f4 := (M_fbX (n' := n') B hS' hP' (c.trans m3.cg) ht (show j < 12 by omega)).2
        have e29 : z_up Z 83 28 (h_kf I J s a (t + 1)) 83 29 = Z 83 29 := by rw [z_up_e, if_neg (by decide)]
        refine ⟨z_up (z_up Z 83 28 (h_kf I J s a (t + 1))) 83 29 (h_kl I J s a (t + 1)), ⟨m3.trans (z_mf.up rfl), fun b hb => by rw [z_up_r hb, z_up_r hb]; exact q2 b hb, by rw [z_up_e, if_neg (by decide), z_up_e, if_neg (by decide)]; exact q0, by rw [z_up_e, if_neg (by decide), z_up_e, if_pos rfl], by rw [z_up_e, if_pos rfl]⟩, ?_⟩
        simp (disch := omega) only [f_Mo_knows_L22, ht, hob, o, z_Mr hS' hP', f3, or_true, true_or, or_false, false_or, z_b_T, z_b_F, Bool.false_eq_true, Classical.not_not, decide_eq_true_eq, z_sq, Option.bind_some, z_lits, z_n_add, z_n_mul, z_lt, z_le, z_eq, z_ne1, z_1ne, z_lt1, z_1lt, z_ltT, z_ltF, z_leT, z_leF, z_eqF, z_b_0, z_b_1, ↓reduceIte, eq_self, not_true_eq_false, not_false_eq_true, and_true, true_and, and_false, false_and, Nat.add_zero, Nat.zero_add]
        rw [← g1]
        simp (disch := omega) only [z_Mw hS', z_Mr hS' hP', e29, hob, f4, or_true, true_or, or_false, false_or, z_b_T, z_b_F, Bool.false_eq_true, Classical.not_not, decide_eq_true_eq, z_sq, Option.bind_some, z_lits, z_n_add, z_n_mul, z_lt, z_le, z_eq, z_ne1, z_1ne, z_lt1, z_1lt, z_ltT, z_ltF, z_leT, z_leF, z_eqF, z_b_0, z_b_1, ↓reduceIte, eq_self, not_true_eq_false, not_false_eq_true, and_true, true_and, and_false, false_and, Nat.add_zero, Nat.zero_add]
        rw [← g2]
      · rw [if_neg hj] at o
        refine ⟨Z, ⟨q1, q2, q0, by rw [h_kf, if_neg hj]; exact q3, by rw [h_kl, if_neg hj]; exact q4⟩, ?_⟩
        simp (disch := omega) only [f_Mo_knows_L22, ht, hob, o, or_true, true_or, or_false, false_or, z_b_T, z_b_F, Bool.false_eq_true, Classical.not_not, decide_eq_true_eq, z_sq, Option.bind_some, z_lits, z_n_add, z_n_mul, z_lt, z_le, z_eq, z_ne1, z_1ne, z_lt1, z_1lt, z_ltT, z_ltF, z_leT, z_leF, z_eqF, z_b_0, z_b_1, ↓reduceIte, eq_self, not_true_eq_false, not_false_eq_true, and_true, true_and, and_false, false_and, Nat.add_zero, Nat.zero_add])
    (by
      intro m Z ⟨q1, q2, q0, q3, q4⟩
      refine ⟨Z, ?_, q1, q2, q0, q3, q4⟩
      simp (disch := omega) only [f_Mo_knows_L22, Nat.lt_irrefl, or_true, true_or, or_false, false_or, z_b_T, z_b_F, Bool.false_eq_true, Classical.not_not, decide_eq_true_eq, z_sq, Option.bind_some, z_lits, z_n_add, z_n_mul, z_lt, z_le, z_eq, z_ne1, z_1ne, z_lt1, z_1lt, z_ltT, z_ltF, z_leT, z_leF, z_eqF, z_b_0, z_b_1, ↓reduceIte, eq_self, not_true_eq_false, not_false_eq_true, and_true, true_and, and_false, false_and, Nat.add_zero, Nat.zero_add])
    (x := z_up (z_up Y 83 28 (h_fb I J s a)) 83 29 (h_lb I J s a)) ⟨m2, fun b hb => by rw [z_up_r hb, z_up_r hb], by rw [z_up_e, if_neg (by decide), z_up_e, if_neg (by decide)], by rw [z_up_e, if_neg (by decide), z_up_e, if_pos rfl]; rfl, by rw [z_up_e, if_pos rfl]; rfl⟩
  refine ⟨Z, ?_, a2, a3, a0, a4, a5⟩
  simp (disch := omega) only [f_Mo_knows, hob, f1, f2, z_Mw hS', a1, or_true, true_or, or_false, false_or, z_b_T, z_b_F, Bool.false_eq_true, Classical.not_not, decide_eq_true_eq, z_sq, Option.bind_some, z_lits, z_n_add, z_n_mul, z_lt, z_le, z_eq, z_ne1, z_1ne, z_lt1, z_1lt, z_ltT, z_ltF, z_leT, z_leF, z_eqF, z_b_0, z_b_1, ↓reduceIte, eq_self, not_true_eq_false, not_false_eq_true, and_true, true_and, and_false, false_and, Nat.add_zero, Nat.zero_add]
theorem d_nm_i {D : z_D} {x : Int64} {k : Nat} (h : d_ok D) (hk : k < D.1) (e : D.2.2 0 k = x) : d_nm x D = k := by
  have hc : d_nm x D < D.1 := by
    by_cases c : d_nm x D < D.1
    · exact c
    · have hle := z_ff_le (fun b => decide (D.2.2 0 b = x)) D.1
      have := of_decide_eq_false (z_ff_no (fun b => decide (D.2.2 0 b = x)) D.1 k (by unfold d_nm at c; omega))
      exact absurd e this
  have is := of_decide_eq_true (z_ff_is (fun b => decide (D.2.2 0 b = x)) D.1 hc)
  exact h.2.2 _ _ hc hk (is.trans e.symm)
def d_pp (D E : z_D) (i k : Nat) : Bool := decide ((D.2.1 0 k = z_n 0 ∧ ¬ E.2.2 1 i = 0 ∧ D.2.2 0 k = E.2.2 1 i) ∨ (D.2.1 0 k = z_n 1 ∧ ¬ E.2.2 2 i = 0 ∧ D.2.2 0 k = E.2.2 2 i))
theorem d_pp_hp {D E : z_D} (h : d_ok D) (i : Nat) : (z_ff (d_pp D E i) D.1 < D.1) = (d_hp D E i = true) := by
  have le := z_ff_le (d_pp D E i) D.1
  unfold d_hp
  rw [decide_eq_true_eq]
  apply propext
  constructor
  · intro hc
    have is := of_decide_eq_true (z_ff_is _ _ hc)
    rcases is with ⟨h1, h2, h3⟩ | ⟨h1, h2, h3⟩
    · have e := d_nm_i h hc h3
      exact Or.inl ⟨h2, by rw [e]; exact hc, by rw [e]; exact h1⟩
    · have e := d_nm_i h hc h3
      exact Or.inr ⟨h2, by rw [e]; exact hc, by rw [e, h1]; decide⟩
  · intro q
    have key : ∀ k, k < D.1 → d_pp D E i k = true → z_ff (d_pp D E i) D.1 < D.1 := by
      intro k hk hp
      by_cases c : z_ff (d_pp D E i) D.1 < D.1
      · exact c
      · have := z_ff_no (d_pp D E i) D.1 k (by omega)
        rw [hp] at this; cases this
    rcases q with ⟨h1, h2, h3⟩ | ⟨h1, h2, h3⟩
    · have is := of_decide_eq_true (z_ff_is (fun b => decide (D.2.2 0 b = E.2.2 1 i)) D.1 h2)
      exact key _ h2 (decide_eq_true (Or.inl ⟨h3, h1, is⟩))
    · have is := of_decide_eq_true (z_ff_is (fun b => decide (D.2.2 0 b = E.2.2 2 i)) D.1 h2)
      refine key _ h2 (decide_eq_true (Or.inr ⟨?_, h1, is⟩))
      rcases (h.2.1 _ h2).1 with q | q
      · exact absurd q h3
      · exact q
set_option maxRecDepth 100000 in
set_option maxHeartbeats 4000000 in
theorem M_hasP (B : z_B S I J P K n.1) (hS' : z_St S') (hP' : z_Pt P') (c : z_cg I J Y JY) {s t i : Nat} (hs : s < 24) (ht : t < 24) (hi : i < z_ln I t) : f_Mo_hasParent 83 (z_n s) (z_n (12 * t + i)) (z_h S' Y JY P' n') = some (z_b (d_hp (z_Ds I J s) (z_Ds I J t) i = true), z_h S' Y JY P' n') := by
  have l12 : z_ln I s ≤ 12 := (B.qD hs).1
  have t12 : z_ln I t ≤ 12 := (B.qD ht).1
  have hL := (z_lL_c c B.qL s (by omega)).1
  rw [z_ln_c c] at hL
  obtain ⟨-, -, -, -, -, f1, f2⟩ := (B.qD ht).2.1 i hi
  have e1 : (z_Ds I J t).2.2 1 i = JY 97 (12 * t + i) := by rw [c.j 97 rfl]; rfl
  have e2 : (z_Ds I J t).2.2 2 i = JY 98 (12 * t + i) := by rw [c.j 98 rfl]; rfl
  rw [e1] at f1
  rw [e2] at f2
  have g1 := z_pos f1
  have g2 := z_pos f2
  have le := z_ff_le (d_pp (z_Ds I J s) (z_Ds I J t) i) (z_ln I s)
  have sx := fun k (hk : k < z_ln I s) => ((B.qD hs).2.1 k hk).1
  have key := z_run (r := some ((if z_ff (d_pp (z_Ds I J s) (z_Ds I J t) i) (z_ln I s) < z_ln I s then Sum.inl (z_n 1) else Sum.inr ()), z_h S' Y JY P' n')) (fun m k => f_Mo_hasParent_L5 83 (z_n s) (z_n (12 * t + i)) m (z_n (12 * s + k)) (z_h S' Y JY P' n')) (z_ff (d_pp (z_Ds I J s) (z_Ds I J t) i) (z_ln I s)) (by omega)
    (by
      intro m k hk
      have hkc : k < z_ln I s := by omega
      have no := z_ff_no _ _ _ hk
      have d0 : (z_Ds I J s).2.1 0 k = Y 91 (12 * s + k) := by rw [c.i 91 rfl]; rfl
      have d1 : (z_Ds I J s).2.2 0 k = JY 96 (12 * s + k) := by rw [c.j 96 rfl]; rfl
      have s1 := sx k hkc
      rw [d0] at s1
      unfold d_pp at no
      rw [d0, d1, e1, e2] at no
      have no := of_decide_eq_false no
      rcases s1 with s1 | s1
      · rcases z_tf (JY 97 (12 * t + i) = 0) with k1 | k1 <;> rcases z_tf (JY 96 (12 * s + k) = JY 97 (12 * t + i)) with k2 | k2
        all_goals first
          | (exfalso; exact no (Or.inl ⟨s1, of_eq_false k1, of_eq_true k2⟩))
          | simp (disch := omega) only [f_Mo_hasParent_L5, z_Mr hS' hP', hL, hkc, s1, g1, g2, k1, k2, or_true, true_or, or_false, false_or, z_b_T, z_b_F, Bool.false_eq_true, Classical.not_not, decide_eq_true_eq, z_sq, Option.bind_some, z_lits, z_n_add, z_n_mul, z_lt, z_le, z_eq, z_ne1, z_1ne, z_lt1, z_1lt, z_ltT, z_ltF, z_leT, z_leF, z_eqF, z_b_0, z_b_1, ↓reduceIte, eq_self, not_true_eq_false, not_false_eq_true, and_true, true_and, and_false, false_and, Nat.add_zero, Nat.zero_add, Nat.add_assoc, Nat.add_lt_add_iff_left]
      · rcases z_tf (JY 98 (12 * t + i) = 0) with k1 | k1 <;> rcases z_tf (JY 96 (12 * s + k) = JY 98 (12 * t + i)) with k2 | k2
        all_goals first
          | (exfalso; exact no (Or.inr ⟨s1, of_eq_false k1, of_eq_true k2⟩))
          | simp (disch := omega) only [f_Mo_hasParent_L5, z_Mr hS' hP', hL, hkc, s1, g1, g2, k1, k2, or_true, true_or, or_false, false_or, z_b_T, z_b_F, Bool.false_eq_true, Classical.not_not, decide_eq_true_eq, z_sq, Option.bind_some, z_lits, z_n_add, z_n_mul, z_lt, z_le, z_eq, z_ne1, z_1ne, z_lt1, z_1lt, z_ltT, z_ltF, z_leT, z_leF, z_eqF, z_b_0, z_b_1, ↓reduceIte, eq_self, not_true_eq_false, not_false_eq_true, and_true, true_and, and_false, false_and, Nat.add_zero, Nat.zero_add, Nat.add_assoc, Nat.add_lt_add_iff_left])
    (by
      intro m
      by_cases hc : z_ff (d_pp (z_Ds I J s) (z_Ds I J t) i) (z_ln I s) < z_ln I s
      · rw [if_pos hc]
        have is := z_ff_is _ _ hc
        have s1 := sx _ hc
        generalize z_ff (d_pp (z_Ds I J s) (z_Ds I J t) i) (z_ln I s) = k at *
        have d0 : (z_Ds I J s).2.1 0 k = Y 91 (12 * s + k) := by rw [c.i 91 rfl]; rfl
        have d1 : (z_Ds I J s).2.2 0 k = JY 96 (12 * s + k) := by rw [c.j 96 rfl]; rfl
        unfold d_pp at is
        rw [d0, d1, e1, e2] at is
        rcases of_decide_eq_true is with ⟨k0, k1, k2⟩ | ⟨k0, k1, k2⟩
        · have k1 := eq_false k1
          have k2 := eq_true k2
          simp (disch := omega) only [f_Mo_hasParent_L5, z_Mr hS' hP', hL, hc, k0, g1, g2, k1, k2, or_true, true_or, or_false, false_or, z_b_T, z_b_F, Bool.false_eq_true, Classical.not_not, decide_eq_true_eq, z_sq, Option.bind_some, z_lits, z_n_add, z_n_mul, z_lt, z_le, z_eq, z_ne1, z_1ne, z_lt1, z_1lt, z_ltT, z_ltF, z_leT, z_leF, z_eqF, z_b_0, z_b_1, ↓reduceIte, eq_self, not_true_eq_false, not_false_eq_true, and_true, true_and, and_false, false_and, Nat.add_zero, Nat.zero_add, Nat.add_lt_add_iff_left]
        · have k1 := eq_false k1
          have k2 := eq_true k2
          simp (disch := omega) only [f_Mo_hasParent_L5, z_Mr hS' hP', hL, hc, k0, g1, g2, k1, k2, or_true, true_or, or_false, false_or, z_b_T, z_b_F, Bool.false_eq_true, Classical.not_not, decide_eq_true_eq, z_sq, Option.bind_some, z_lits, z_n_add, z_n_mul, z_lt, z_le, z_eq, z_ne1, z_1ne, z_lt1, z_1lt, z_ltT, z_ltF, z_leT, z_leF, z_eqF, z_b_0, z_b_1, ↓reduceIte, eq_self, not_true_eq_false, not_false_eq_true, and_true, true_and, and_false, false_and, Nat.add_zero, Nat.zero_add, Nat.add_lt_add_iff_left]
      · rw [if_neg hc]
        have e : z_ff (d_pp (z_Ds I J s) (z_Ds I J t) i) (z_ln I s) = z_ln I s := by omega
        rw [e]
        simp (maxSteps := 4000000) (disch := omega) only [f_Mo_hasParent_L5, z_Mr hS' hP', hL, Nat.lt_irrefl, or_true, true_or, or_false, false_or, z_b_T, z_b_F, Bool.false_eq_true, Classical.not_not, decide_eq_true_eq, z_sq, Option.bind_some, z_lits, z_n_add, z_n_mul, z_lt, z_le, z_eq, z_ne1, z_1ne, z_lt1, z_1lt, z_ltT, z_ltF, z_leT, z_leF, z_eqF, z_b_0, z_b_1, ↓reduceIte, eq_self, not_true_eq_false, not_false_eq_true, and_true, true_and, and_false, false_and, Nat.add_zero, Nat.zero_add])
  simp only [Nat.add_zero] at key
  simp only [← d_pp_hp (B.qD hs)]
  unfold f_Mo_hasParent
  rw [show ((12 : Int32) * z_n s) = z_n (12 * s) from z_n_mul 12 s, key, z_sq]
  have e : (z_Ds I J s).1 = z_ln I s := rfl
  rw [e]
  by_cases hc : z_ff (d_pp (z_Ds I J s) (z_Ds I J t) i) (z_ln I s) < z_ln I s
  · rw [if_pos hc, z_b_t hc]
  · rw [if_neg hc, z_b_f hc]; rfl
end
