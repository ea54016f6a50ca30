/-! LETS: the reference's facts; laws at work. -/
theorem k_cc_cg {I : z_MI} {J : z_MJ} {a : Nat} (h1 : z_cra a = false) (h2 : a ≠ 83) (L : List (Nat × Int32)) : z_cg I J (k_cc I a L) J := by
  refine ⟨fun b hb => (k_cc_o (fun e => ?_) L).symm, ?_, ?_, fun _ _ => rfl⟩
  · rw [e, h1] at hb; cases hb
  · rw [k_cc_o h2.symm]
  · rw [k_cc_o h2.symm]
section
variable {S : z_SH} {I Y : z_MI} {J : z_MJ} {P : z_MP} {K : Nat → Bool} {n : Nat × Nat}
theorem M_oth (B : z_B S I J P K n.1) (c : z_cg I J Y J) {s a b : Nat} {w : Int32} (hs : s < 24) (ha : a < 12) (hb : b < 12) : f_Mo_others 83 (z_n s) (z_n (12 * s + a)) w (z_n (12 * s + b)) (z_h S Y J P n) = some (z_n (z_sum (z_ln I s) (d_ot (z_Ds I J s) a w b)), z_h S Y J P n) := by
  have m := M_others (n := n) (J := J) B.qS B.qP (z_lL_c c B.qL) (w := w) hs (a := 12 * s + a) (b := 12 * s + b) (by omega) (by omega)
  rw [z_ln_c c, z_sum_eq (fun i _ => (z_ot_c c s _ w _ i).trans (z_ot_D I J s a w b i))] at m
  exact m
set_option maxRecDepth 100000 in
set_option maxHeartbeats 4000000 in
theorem M_l74 (hS : z_St S) (hP : z_Pt P) {q1 q2 q3 q4 q5 : Int32} {so : Nat} (hs : so ≤ 4) (L : List (Nat × Int32)) : f_Mo_isLet_L74 83 q1 q2 q3 q4 q5 (z_n so) q_FU (z_n 0) (z_h S (k_cc Y 119 L) J P n) = some ((), z_h S (k_cc Y 119 ((7, if so = 3 then z_n 1 else z_n 0) :: (6, if so = 2 then z_n 1 else z_n 0) :: (5, if so = 1 then z_n 1 else z_n 0) :: (4, if so = 0 then z_n 1 else z_n 0) :: L)) J P n) := by
  have f : ∀ L, q_gr (q_gf (z_h S (k_cc Y 119 L) J P n) 12 83 51) = some 119 := fun _ => z_gr (s_83 hS) rfl (p_83_51 hP)
  have w : ∀ L i v, i < 20 → q_sa (z_h S (k_cc Y 119 L) J P n) 20 119 (z_n i) (.int v) = some (z_h S (k_cc Y 119 ((i, v) :: L)) J P n) := fun L i v hi => z_sai (s_119 hS) (by decide) (by omega) (z_rpl hi)
  have st : ∀ m i L, i < 4 → f_Mo_isLet_L74 83 q1 q2 q3 q4 q5 (z_n so) (m + 1) (z_n i) (z_h S (k_cc Y 119 L) J P n) = f_Mo_isLet_L74 83 q1 q2 q3 q4 q5 (z_n so) m (z_n (i + 1)) (z_h S (k_cc Y 119 ((4 + i, if so = i then z_n 1 else z_n 0) :: L)) J P n) := by
    intro m i L hi
    by_cases c : so = i
    · rw [if_pos c]
      simp (disch := omega) only [f_Mo_isLet_L74, hi, f, w, c, or_true, true_or, or_false, false_or, z_b_T, z_b_F, Bool.false_eq_true, Classical.not_not, decide_eq_true_eq, z_sq, Option.bind_some, z_lits, z_n_add, z_n_mul, z_lt, z_le, z_eq, z_ne1, z_1ne, z_lt1, z_1lt, z_ltT, z_ltF, z_leT, z_leF, z_eqF, z_b_0, z_b_1, ↓reduceIte, eq_self, not_true_eq_false, not_false_eq_true, and_true, true_and, and_false, false_and, Nat.add_zero, Nat.zero_add]
    · rw [if_neg c]
      simp (disch := omega) only [f_Mo_isLet_L74, hi, f, w, c, or_true, true_or, or_false, false_or, z_b_T, z_b_F, Bool.false_eq_true, Classical.not_not, decide_eq_true_eq, z_sq, Option.bind_some, z_lits, z_n_add, z_n_mul, z_lt, z_le, z_eq, z_ne1, z_1ne, z_lt1, z_1lt, z_ltT, z_ltF, z_leT, z_leF, z_eqF, z_b_0, z_b_1, ↓reduceIte, eq_self, not_true_eq_false, not_false_eq_true, and_true, true_and, and_false, false_and, Nat.add_zero, Nat.zero_add]
  have en : ∀ m L, f_Mo_isLet_L74 83 q1 q2 q3 q4 q5 (z_n so) (m + 1) (z_n 4) (z_h S (k_cc Y 119 L) J P n) = some ((), z_h S (k_cc Y 119 L) J P n) := by
    intro m L
    simp (disch := omega) only [f_Mo_isLet_L74, or_true, true_or, or_false, false_or, z_b_T, z_b_F, Bool.false_eq_true, Classical.not_not, decide_eq_true_eq, z_sq, Option.bind_some, z_lits, z_n_add, z_n_mul, z_lt, z_le, z_eq, z_ne1, z_1ne, z_lt1, z_1lt, z_ltT, z_ltF, z_leT, z_leF, z_eqF, z_b_0, z_b_1, ↓reduceIte, eq_self, not_true_eq_false, not_false_eq_true, and_true, true_and, and_false, false_and, Nat.add_zero, Nat.zero_add, Nat.lt_irrefl]
  rw [z_FU]
  show f_Mo_isLet_L74 83 q1 q2 q3 q4 q5 (z_n so) (999995 + 1 + 1 + 1 + 1 + 1) (z_n 0) _ = _
  generalize 999995 = m
  rw [st _ 0 _ (by omega), st _ 1 _ (by omega), st _ 2 _ (by omega), st _ 3 _ (by omega), en]
set_option maxRecDepth 100000 in
set_option maxHeartbeats 4000000 in
theorem M_fill (B : z_B S I J P K n.1) (c : z_cg I J Y J) {k s l : Nat} (hs : s < 24) (hw : z_wf I s l = true) {w : l_V → Bool} (M : ∀ X, z_cg I J X J → ∀ v, (∀ j, j < 13 → X 119 (j + 1) = v j) → ∃ Z, f_Mo_isLet_L204 83 (z_n k) q_FU (z_n (6 * k)) (z_h S X J P n) = some ((if w v = true then Sum.inl (z_n 1) else Sum.inr ()), z_h S Z J P n) ∧ ∀ a, ¬ (110 ≤ a ∧ a ≤ 118) → Z a = X a) : ∃ Z, f_Mo_isLet 83 (z_n k) (z_n s) (z_n l) (z_h S Y J P n) = some (z_b (w (d_fc (z_Ds I J s) (I 87 s) (I 84 (z_vi I s)) (I 88 s) l) = true), z_h S Z J P n) ∧ ∀ a, ¬ (110 ≤ a ∧ a ≤ 119) → Z a = Y a := by
  have hS := B.qS
  have hP := B.qP
  obtain ⟨p, -, -, hl, h12, dw, hu, hb⟩ := B.wife hs hw
  have D := B.qD hs
  have sol := d_so_le (z_Ds I J s) l
  have ehb : z_hb I (12 * s + l) = d_hb (z_Ds I J s) l := rfl
  rw [ehb] at hu hb
  have om : ∀ L, q_ob (z_h S (k_cc Y 119 L) J P n) 12 83 = some _ := fun L => z_ob (s_83 hS)
  have cg : ∀ L, z_cg I J (k_cc Y 119 L) J := fun L => c.trans (k_cc_cg rfl (by decide) L)
  have ms := fun L => M_wsort (n' := n) B hS hP (cg L) hs hw
  simp only [ehb] at ms
  have oth1 := fun L w => M_oth (n := n) B (cg L) (a := l) (b := d_hb (z_Ds I J s) l) (w := w) hs (by omega) (by omega)
  have oth2 := fun L w => M_oth (n := n) B (cg L) (a := d_hb (z_Ds I J s) l) (b := l) (w := w) hs (by omega) (by omega)
  have l74 := fun L (q1 q2 q3 q4 q5 : Int32) => M_l74 (Y := Y) (J := J) (n := n) hS hP (q1 := q1) (q2 := q2) (q3 := q3) (q4 := q4) (q5 := q5) sol L
  obtain ⟨v1, v2⟩ := B.qV s hs
  have f51 : ∀ L, q_gr (q_gf (z_h S (k_cc Y 119 L) J P n) 12 83 51) = some 119 := fun _ => z_gr (s_83 hS) rfl (p_83_51 hP)
  have f9 : ∀ L, q_gr (q_gf (z_h S (k_cc Y 119 L) J P n) 12 83 9) = some 92 := fun _ => z_gr (s_83 hS) rfl (p_83_9 hP)
  have f4 : ∀ L, q_gr (q_gf (z_h S (k_cc Y 119 L) J P n) 12 83 4) = some 87 := fun _ => z_gr (s_83 hS) rfl (p_83_4 hP)
  have f5 : ∀ L, q_gr (q_gf (z_h S (k_cc Y 119 L) J P n) 12 83 5) = some 88 := fun _ => z_gr (s_83 hS) rfl (p_83_5 hP)
  have f1 : ∀ L, q_gr (q_gf (z_h S (k_cc Y 119 L) J P n) 12 83 1) = some 84 := fun _ => z_gr (s_83 hS) rfl (p_83_1 hP)
  have w9 : ∀ L i v, i < 20 → q_sa (z_h S (k_cc Y 119 L) J P n) 20 119 (z_n i) (.int v) = some (z_h S (k_cc Y 119 ((i, v) :: L)) J P n) := fun L i v hi => z_sai (s_119 hS) (by decide) (by omega) (z_rpl hi)
  have r92 : ∀ L i, i < 12 → q_gi (q_ga (z_h S (k_cc Y 119 L) J P n) 20 92 (z_n (12 * s + i))) = some ((z_Ds I J s).2.1 1 i) := fun L i hi => by
    rw [z_gia (s_92 hS) (by omega) (z_rpl (by omega)), (cg L).i 92 rfl]; rfl
  have r87 : ∀ L, q_gi (q_ga (z_h S (k_cc Y 119 L) J P n) 20 87 (z_n s)) = some (I 87 s) := fun L => by
    rw [z_gia (s_87 hS) (by omega) (z_rpl (by omega)), (cg L).i 87 rfl]
  have r88 : ∀ L, q_gi (q_ga (z_h S (k_cc Y 119 L) J P n) 20 88 (z_n s)) = some (I 88 s) := fun L => by
    rw [z_gia (s_88 hS) (by omega) (z_rpl (by omega)), (cg L).i 88 rfl]
  have r84 : ∀ L, q_gi (q_ga (z_h S (k_cc Y 119 L) J P n) 20 84 (I 87 s)) = some (I 84 (z_vi I s)) := fun L => by
    rw [v1, z_gia (s_84 hS) (by omega) (z_rpl (by omega)), (cg L).i 84 rfl]
  have b0 : z_h S Y J P n = z_h S (k_cc Y 119 []) J P n := rfl
  generalize hhb : d_hb (z_Ds I J s) l = hb' at *
  obtain ⟨Z, z1, z2⟩ := M (k_cc Y 119 [(13, I 88 s), (12, I 84 (z_vi I s)), (11, I 87 s), (10, z_n (z_sum (z_ln I s) (d_ot (z_Ds I J s) hb' (z_n 1) l))), (9, z_n (z_sum (z_ln I s) (d_ot (z_Ds I J s) l (z_n 0) hb'))), (8, z_n (d_tk (z_Ds I J s) l)), (7, if d_so (z_Ds I J s) l = 3 then z_n 1 else z_n 0), (6, if d_so (z_Ds I J s) l = 2 then z_n 1 else z_n 0), (5, if d_so (z_Ds I J s) l = 1 then z_n 1 else z_n 0), (4, if d_so (z_Ds I J s) l = 0 then z_n 1 else z_n 0), (3, (z_Ds I J s).2.1 1 l), (2, (z_Ds I J s).2.1 1 hb'), (1, (z_Ds I J s).2.1 1 hb' - (z_Ds I J s).2.1 1 l)]) (cg _) (d_fc (z_Ds I J s) (I 87 s) (I 84 (z_vi I s)) (I 88 s) l) (by
    intro j hj
    have : j = 0 ∨ j = 1 ∨ j = 2 ∨ j = 3 ∨ j = 4 ∨ j = 5 ∨ j = 6 ∨ j = 7 ∨ j = 8 ∨ j = 9 ∨ j = 10 ∨ j = 11 ∨ j = 12 := by omega
    unfold d_fc
    rw [hhb]
    rcases this with rfl | rfl | rfl | rfl | rfl | rfl | rfl | rfl | rfl | rfl | rfl | rfl | rfl <;> simp only [k_cc_e] <;> rfl)
  refine ⟨Z, ?_, fun a ha => by rw [z2 a (by omega), k_cc_o (by omega)]⟩
  unfold f_Mo_isLet
  rw [b0]
  simp only [z_lits, z_n_mul, z_n_add]
  rw [om, Option.bind_some, (ms _).2.2, z_sq, om, Option.bind_some, (ms _).1, z_sq, f51, Option.bind_some, f9, Option.bind_some, r92 _ _ (by omega), Option.bind_some, Option.bind_some, r92 _ _ (by omega), Option.bind_some, w9 _ _ _ (by omega), Option.bind_some]
  rw [f51, Option.bind_some, f9, Option.bind_some, r92 _ _ (by omega), Option.bind_some, w9 _ _ _ (by omega), Option.bind_some]
  rw [f51, Option.bind_some, f9, Option.bind_some, r92 _ _ (by omega), Option.bind_some, w9 _ _ _ (by omega), Option.bind_some]
  rw [l74, z_sq]
  rw [f51, Option.bind_some, om, Option.bind_some, (ms _).2.1, z_sq, w9 _ _ _ (by omega), Option.bind_some]
  rw [f51, Option.bind_some, om, Option.bind_some, oth1, z_sq, w9 _ _ _ (by omega), Option.bind_some]
  rw [f51, Option.bind_some, om, Option.bind_some, oth2, z_sq, w9 _ _ _ (by omega), Option.bind_some]
  rw [f51, Option.bind_some, f4, Option.bind_some, r87, Option.bind_some, w9 _ _ _ (by omega), Option.bind_some]
  rw [f51, Option.bind_some, f1, Option.bind_some, f4, Option.bind_some, r87, Option.bind_some, r84, Option.bind_some, w9 _ _ _ (by omega), Option.bind_some]
  rw [f51, Option.bind_some, f5, Option.bind_some, r88, Option.bind_some, w9 _ _ _ (by omega), Option.bind_some]
  rw [z1, z_sq]
  by_cases q : w (d_fc (z_Ds I J s) (I 87 s) (I 84 (z_vi I s)) (I 88 s) l) = true
  · rw [if_pos q, z_b_t q]
  · rw [if_neg q, z_b_f q]
end
