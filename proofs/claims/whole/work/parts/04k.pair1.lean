/-! Pairs of calls: the class's answer is the reference's. -/
/-- what the reference's calls leave as it was -/
def z_mf (I : z_MI) (J : z_MJ) (I' : z_MI) (J' : z_MJ) : Prop := (∀ a, (a < 83 ∨ 130 ≤ a ∨ z_cra a = true) → I' a = I a ∧ J' a = J a) ∧ I' 83 16 = I 83 16 ∧ I' 83 32 = I 83 32
theorem z_mf.cg {I I' : z_MI} {J J' : z_MJ} (h : z_mf I J I' J') : z_cg I J I' J' := ⟨fun a ha => (h.1 a (Or.inr (Or.inr ha))).1.symm, h.2.1.symm, h.2.2.symm, fun a ha => (h.1 a (Or.inr (Or.inr ha))).2.symm⟩
theorem z_mf.refl (I : z_MI) (J : z_MJ) : z_mf I J I J := ⟨fun _ _ => ⟨rfl, rfl⟩, rfl, rfl⟩
theorem z_mf.trans {I I' I2 : z_MI} {J J' J2 : z_MJ} (h : z_mf I J I' J') (k : z_mf I' J' I2 J2) : z_mf I J I2 J2 := ⟨fun a ha => ⟨(k.1 a ha).1.trans (h.1 a ha).1, (k.1 a ha).2.trans (h.1 a ha).2⟩, k.2.1.trans h.2.1, k.2.2.trans h.2.2⟩
/-- the reference's own places: its object's ints and longs, rows that no call shows -/
def z_msc (a i : Nat) : Bool := (a == 83 && !(i == 16) && !(i == 32)) || a == 100 || a == 102 || (decide (108 ≤ a) && decide (a ≤ 124))
theorem z_msc_ne {a i : Nat} (h : z_msc a i = true) : (83 ≤ a ∧ a < 130 ∧ z_cra a = false) ∧ ¬ (a = 83 ∧ (i = 16 ∨ i = 32)) := by
  unfold z_msc at h
  unfold z_cra
  simp only [Bool.or_eq_true, Bool.and_eq_true, decide_eq_true_eq, beq_iff_eq, Bool.not_eq_true', Bool.or_eq_false_iff, Bool.and_eq_false_iff, decide_eq_false_iff_not, beq_eq_false_iff_ne] at *
  omega
theorem z_mf.up {I : z_MI} {J : z_MJ} {a i : Nat} {v : Int32} (h : z_msc a i = true) : z_mf I J (z_up I a i v) J := by
  obtain ⟨⟨h1, h2, h3⟩, h4⟩ := z_msc_ne h
  refine ⟨fun b hb => ⟨z_up_r ?_, rfl⟩, if_neg (fun e => h4 ⟨e.1.symm, Or.inl e.2.symm⟩), if_neg (fun e => h4 ⟨e.1.symm, Or.inr e.2.symm⟩)⟩
  intro e
  subst e
  rcases hb with q | q | q
  · omega
  · omega
  · rw [h3] at q; cases q
theorem z_mf.uj {I : z_MI} {J : z_MJ} {a i : Nat} {v : Int64} (h : z_msc a i = true) : z_mf I J I (z_uj J a i v) := by
  obtain ⟨⟨h1, h2, h3⟩, h4⟩ := z_msc_ne h
  refine ⟨fun b hb => ⟨rfl, z_uj_r ?_⟩, rfl, rfl⟩
  intro e
  subst e
  rcases hb with q | q | q
  · omega
  · omega
  · rw [h3] at q; cases q
theorem z_mf.ri {I : z_MI} {J : z_MJ} {a : Nat} {f : Nat → Int32} (h : z_msc a 0 = true) (h83 : a ≠ 83) : z_mf I J (z_ri I a f) J := by
  obtain ⟨⟨h1, h2, h3⟩, h4⟩ := z_msc_ne h
  refine ⟨fun b hb => ⟨z_ri_a ?_, rfl⟩, by rw [z_ri_a (fun e => h83 e.symm)], by rw [z_ri_a (fun e => h83 e.symm)]⟩
  intro e
  subst e
  rcases hb with q | q | q
  · omega
  · omega
  · rw [h3] at q; cases q
/-- scratch of the class -/
def z_x0 (K : Nat → Bool) : Nat → Bool := fun a => K a || (decide (35 ≤ a) && decide (a ≤ 42))
theorem z_keepx (K : Nat → Bool) : z_keep (z_x0 K) K := by
  intro a h
  unfold z_x0 at h
  simp only [Bool.or_eq_true, Bool.and_eq_true, decide_eq_true_eq] at h
  rcases h with h | h
  · exact Or.inl h
  · exact Or.inr (Or.inr h)
theorem z_ag.x0 {n : Nat} {K : Nat → Bool} {S S' : z_SH} {I I' : z_MI} {J J' : z_MJ} {P P' : z_MP} (g : z_ag n z_nil S I J P S' I' J' P') : z_ag n (z_x0 K) S I J P S' I' J' P' := g.wide (fun _ _ _ => rfl)
/-- a call of the class, then one of the reference -/
def z_pr {T : Type} (fc fm : q_H → Option (T × q_H)) (S : z_SH) (I : z_MI) (J : z_MJ) (P : z_MP) (K : Nat → Bool) (n : Nat × Nat) : Prop :=
  ∃ r S' I' J' P' n' I2 J2, fc (z_h S I J P n) = some (r, z_h S' I' J' P' n') ∧ fm (z_h S' I' J' P' n') = some (r, z_h S' I2 J2 P' n') ∧ z_ag n.1 (z_x0 K) S I J P S' I' J' P' ∧ (n.1 ≤ n'.1 ∧ n'.1 ≤ n.1 + 60 ∧ n'.2 ≤ n.2 + 3000) ∧ z_mf I' J' I2 J2
section
variable {S : z_SH} {I : z_MI} {J : z_MJ} {P : z_MP} {K : Nat → Bool} {n : Nat × Nat}
/-- where the class changes nothing at all -/
theorem z_pr.same {T : Type} {fc fm : q_H → Option (T × q_H)} {r : T} {I2 : z_MI} {J2 : z_MJ} (h1 : fc (z_h S I J P n) = some (r, z_h S I J P n)) (h2 : fm (z_h S I J P n) = some (r, z_h S I2 J2 P n)) (h3 : z_mf I J I2 J2) : z_pr fc fm S I J P K n :=
  ⟨r, S, I, J, P, n, I2, J2, h1, h2, z_ag.refl _ _ _ _ _ _, ⟨by omega, by omega, by omega⟩, h3⟩
theorem z_B.qn (B : z_B S I J P K n.1) : 131 ≤ n.1 := B.2.2.1.1
theorem M_thr (hS : z_St S) : ∀ I J P n v, q_sf (z_h S I J P n) 12 83 0 (.int v) = some (z_h S (z_up I 83 0 v) J P n) := fun _ _ _ _ _ => z_sfi (s_83 hS) (by decide) rfl
theorem M_count (B : z_B S I J P K n.1) {S' : z_SH} {I1 : z_MI} {J1 : z_MJ} {P' : z_MP} {n' : Nat × Nat} (hS' : z_St S') (hP' : z_Pt P') (c : z_cg I J I1 J1) (a b wo so tk : Int32) : f_Mo_countOf 83 a b wo so tk (z_h S' I1 J1 P' n') = some (z_n (z_co I J a b wo so tk), z_h S' I1 J1 P' n') := by
  rw [M_countOf hS' hP' (z_lL_c c B.qL) (z_lW_c c B.qW) (z_lV_c c B.qV), z_co_c c]
theorem z_o1 {c : Int32} {N : Nat} (h : z_o c N) (h1 : ¬ c = -z_n 1) : (c < -z_n 1) = True ∨ ((c < -z_n 1) = False ∧ (z_n N < c) = True) := by
  by_cases h2 : c < -z_n 1
  · exact Or.inl (eq_true h2)
  · refine Or.inr ⟨eq_false h2, eq_true ?_⟩
    rcases h with h3 | h3
    · exfalso
      rw [Int32.lt_iff_toInt_lt, z_m1] at h2
      rw [Int32.lt_iff_toInt_lt, z_n_int (by omega)] at h3
      rw [← Int32.toInt_inj, z_m1] at h1
      omega
    · exact h3
/-- the class's sum, and the reference's counts behind it -/
theorem C_gat (B : z_B S I J P K n.1) {a b : Int32} (ha : z_sc a b = true) : ∃ S' I' J' P', f_Rs_gather 8 a b (z_h S I J P n) = some (n.1, z_h S' I' J' P' (n.1 + 2, n.2 + 16)) ∧ z_ag n.1 z_nil S I J P S' I' J' P' ∧ z_ty S' I' P' n.1 (z_ct I J a b 24) ∧ z_St S' ∧ z_Pt P' ∧ z_cg I J I' J' := by
  obtain ⟨S', I', J', P', h1, h2, h3⟩ := C_gather B (b := b) (z_sc_cases ha)
  exact ⟨S', I', J', P', h1, h2, h3, B.qS.mono h2 B.qn, B.qP.mono h2 B.qn, h2.cg z_keep0 B.2.2.1.2 B.qn⟩
theorem C_gat8 {S : z_SH} {I : z_MI} {J : z_MJ} {P : z_MP} {n : Nat × Nat} (hS : z_St S) : q_ob (z_h S I J P n) 0 8 = some (z_vs I J P 8 [2, 2, 2, 2, 2, 2, 2, 2, 2, 2, 2, 2, 2]) := z_ob (s_8 hS)
theorem M_r0 {S : z_SH} (hS : z_St S) : ∀ I J P n, q_gi (q_gf (z_h S I J P n) 12 83 0) = some (I 83 0) := fun _ _ _ _ => z_gi (s_83 hS) rfl
set_option maxRecDepth 100000 in
set_option maxHeartbeats 4000000 in
theorem X_marriages (B : z_B S I J P K n.1) (a b c : Int32) : z_pr (f_Rs_marriages 8 a b c) (f_Mo_marriages 83 a b c) S I J P K n := by
  have hS := B.qS
  have hP := B.qP
  have hn := B.qn
  have m : z_mf I J (z_up I 83 0 (z_n 0)) J := z_mf.up rfl
  by_cases hs : z_sc a b = true
  · obtain ⟨S', I', J', P', h1, h2, h3, hS', hP', cg⟩ := C_gat B hs
    have m' : z_mf I' J' (z_up I' 83 0 (z_n 0)) J' := z_mf.up rfl
    have co := M_count B hS' hP' (cg.trans m'.cg) (n' := (n.1 + 2, n.2 + 16)) a b
    have tob := h3.r.1
    by_cases hc : c = -z_n 1
    · subst hc
      refine ⟨z_n (z_co I J a b (-z_n 1) (z_n 31) (z_n 2)), S', I', J', P', (n.1 + 2, n.2 + 16), _, _, ?_, ?_, h2.x0, ⟨by simp, by simp, by simp⟩, m'⟩
      · have e := C_all (J := J') (n := (n.1 + 2, n.2 + 16)) h3 (lv := 0) (by omega)
        rw [← z_co_all I J a b (lv := 0) (by omega)] at e
        simp (disch := omega) only [f_Rs_marriages, C_isScope, hs, C_isFrom, z_lt1, z_1lt, C_gat8 hS, h1, tob, e, Int32.lt_irrefl, Nat.sub_zero, or_true, true_or, or_false, false_or, z_b_T, z_b_F, Bool.false_eq_true, Classical.not_not, decide_eq_true_eq, z_sq, Option.bind_some, z_lits, z_n_add, z_n_mul, z_lt, z_le, z_eq, z_ne1, z_1ne, z_lt1, z_1lt, z_ltT, z_ltF, z_leT, z_leF, z_eqF, z_b_0, z_b_1, ↓reduceIte, eq_self, not_true_eq_false, not_false_eq_true, and_true, true_and, and_false, false_and, Nat.add_zero, Nat.zero_add]
      · have q : (-z_n 1 < z_n 0) = True := by decide
        simp (disch := omega) only [f_Mo_marriages, M_thr hS', z_ob (s_83 hS'), M_isScope, hs, M_within, z_lt1, z_1lt, Int32.lt_irrefl, q, co, or_true, true_or, or_false, false_or, z_b_T, z_b_F, Bool.false_eq_true, Classical.not_not, decide_eq_true_eq, z_sq, Option.bind_some, z_lits, z_n_add, z_n_mul, z_lt, z_le, z_eq, z_ne1, z_1ne, z_lt1, z_1lt, z_ltT, z_ltF, z_leT, z_leF, z_eqF, z_b_0, z_b_1, ↓reduceIte, eq_self, not_true_eq_false, not_false_eq_true, and_true, true_and, and_false, false_and, Nat.add_zero, Nat.zero_add]
    · rcases z_in c 4 (by omega) with ⟨x, hx, rfl⟩ | ho
      · refine ⟨z_n (z_co I J a b (-z_n 1) (z_n 1 <<< (z_n x &&& z_n 31)) (z_n 2)), S', I', J', P', (n.1 + 2, n.2 + 16), _, _, ?_, ?_, h2.x0, ⟨by simp, by simp, by simp⟩, m'⟩
        · have e := C_ofSort (J := J') (n := (n.1 + 2, n.2 + 16)) h3 (q := x) (lv := 0) (by omega) (by omega)
          rw [← z_co_so I J a b (by omega)] at e
          simp (disch := omega) only [f_Rs_marriages, C_isScope, hs, C_isFrom, z_lt1, z_1lt, C_gat8 hS, h1, tob, e, hc, or_true, true_or, or_false, false_or, z_b_T, z_b_F, Bool.false_eq_true, Classical.not_not, decide_eq_true_eq, z_sq, Option.bind_some, z_lits, z_n_add, z_n_mul, z_lt, z_le, z_eq, z_ne1, z_1ne, z_lt1, z_1lt, z_ltT, z_ltF, z_leT, z_leF, z_eqF, z_b_0, z_b_1, ↓reduceIte, eq_self, not_true_eq_false, not_false_eq_true, and_true, true_and, and_false, false_and, Nat.add_zero, Nat.zero_add]
        · simp (disch := omega) only [f_Mo_marriages, M_thr hS', z_ob (s_83 hS'), M_isScope, hs, M_within, z_lt1, z_1lt, co, or_true, true_or, or_false, false_or, z_b_T, z_b_F, Bool.false_eq_true, Classical.not_not, decide_eq_true_eq, z_sq, Option.bind_some, z_lits, z_n_add, z_n_mul, z_lt, z_le, z_eq, z_ne1, z_1ne, z_lt1, z_1lt, z_ltT, z_ltF, z_leT, z_leF, z_eqF, z_b_0, z_b_1, ↓reduceIte, eq_self, not_true_eq_false, not_false_eq_true, and_true, true_and, and_false, false_and, Nat.add_zero, Nat.zero_add]
      · refine z_pr.same (r := -z_n 1) ?_ ?_ m
        · rcases z_o1 ho hc with q | ⟨q1, q2⟩
          · simp (disch := omega) only [f_Rs_marriages, C_isScope, hs, C_isFrom, q, or_true, true_or, or_false, false_or, z_b_T, z_b_F, Bool.false_eq_true, Classical.not_not, decide_eq_true_eq, z_sq, Option.bind_some, z_lits, z_n_add, z_n_mul, z_lt, z_le, z_eq, z_ne1, z_1ne, z_lt1, z_1lt, z_ltT, z_ltF, z_leT, z_leF, z_eqF, z_b_0, z_b_1, ↓reduceIte, eq_self, not_true_eq_false, not_false_eq_true, and_true, true_and, and_false, false_and, Nat.add_zero, Nat.zero_add]
          · simp (disch := omega) only [f_Rs_marriages, C_isScope, hs, C_isFrom, q1, q2, or_true, true_or, or_false, false_or, z_b_T, z_b_F, Bool.false_eq_true, Classical.not_not, decide_eq_true_eq, z_sq, Option.bind_some, z_lits, z_n_add, z_n_mul, z_lt, z_le, z_eq, z_ne1, z_1ne, z_lt1, z_1lt, z_ltT, z_ltF, z_leT, z_leF, z_eqF, z_b_0, z_b_1, ↓reduceIte, eq_self, not_true_eq_false, not_false_eq_true, and_true, true_and, and_false, false_and, Nat.add_zero, Nat.zero_add]
        · rcases z_o1 ho hc with q | ⟨q1, q2⟩
          · simp (disch := omega) only [f_Mo_marriages, M_thr hS, z_ob (s_83 hS), M_isScope, hs, M_within, q, or_true, true_or, or_false, false_or, z_b_T, z_b_F, Bool.false_eq_true, Classical.not_not, decide_eq_true_eq, z_sq, Option.bind_some, z_lits, z_n_add, z_n_mul, z_lt, z_le, z_eq, z_ne1, z_1ne, z_lt1, z_1lt, z_ltT, z_ltF, z_leT, z_leF, z_eqF, z_b_0, z_b_1, ↓reduceIte, eq_self, not_true_eq_false, not_false_eq_true, and_true, true_and, and_false, false_and, Nat.add_zero, Nat.zero_add]
          · simp (disch := omega) only [f_Mo_marriages, M_thr hS, z_ob (s_83 hS), M_isScope, hs, M_within, q1, q2, or_true, true_or, or_false, false_or, z_b_T, z_b_F, Bool.false_eq_true, Classical.not_not, decide_eq_true_eq, z_sq, Option.bind_some, z_lits, z_n_add, z_n_mul, z_lt, z_le, z_eq, z_ne1, z_1ne, z_lt1, z_1lt, z_ltT, z_ltF, z_leT, z_leF, z_eqF, z_b_0, z_b_1, ↓reduceIte, eq_self, not_true_eq_false, not_false_eq_true, and_true, true_and, and_false, false_and, Nat.add_zero, Nat.zero_add]
  · refine z_pr.same (r := -z_n 1) ?_ ?_ m
    · simp (disch := omega) only [f_Rs_marriages, C_isScope, hs, or_true, true_or, or_false, false_or, z_b_T, z_b_F, Bool.false_eq_true, Classical.not_not, decide_eq_true_eq, z_sq, Option.bind_some, z_lits, z_n_add, z_n_mul, z_lt, z_le, z_eq, z_ne1, z_1ne, z_lt1, z_1lt, z_ltT, z_ltF, z_leT, z_leF, z_eqF, z_b_0, z_b_1, ↓reduceIte, eq_self, not_true_eq_false, not_false_eq_true, and_true, true_and, and_false, false_and, Nat.add_zero, Nat.zero_add]
    · simp (disch := omega) only [f_Mo_marriages, M_thr hS, z_ob (s_83 hS), M_isScope, hs, or_true, true_or, or_false, false_or, z_b_T, z_b_F, Bool.false_eq_true, Classical.not_not, decide_eq_true_eq, z_sq, Option.bind_some, z_lits, z_n_add, z_n_mul, z_lt, z_le, z_eq, z_ne1, z_1ne, z_lt1, z_1lt, z_ltT, z_ltF, z_leT, z_leF, z_eqF, z_b_0, z_b_1, ↓reduceIte, eq_self, not_true_eq_false, not_false_eq_true, and_true, true_and, and_false, false_and, Nat.add_zero, Nat.zero_add]
end
