/-! LETS: the facts of a marriage. -/
def k_cc (X : z_MI) (a : Nat) : List (Nat × Int32) → z_MI
  | [] => X
  | c :: L => z_up (k_cc X a L) a c.1 c.2
theorem k_cc_o {X : z_MI} {a b : Nat} (h : b ≠ a) : ∀ L, k_cc X a L b = X b
  | [] => rfl
  | c :: L => by rw [k_cc, z_ups h, k_cc_o h L]
theorem k_cc_e (X : z_MI) (a : Nat) (c : Nat × Int32) (L : List (Nat × Int32)) (j : Nat) : k_cc X a (c :: L) a j = if j = c.1 then c.2 else k_cc X a L a j := z_up_e _ _ _ _ _
def d_fc (D : z_D) (x y z : Int32) (l j : Nat) : Int32 :=
  if j = 0 then D.2.1 1 (d_hb D l) - D.2.1 1 l else if j = 1 then D.2.1 1 (d_hb D l) else if j = 2 then D.2.1 1 l else if j = 3 then (if d_so D l = 0 then z_n 1 else z_n 0) else if j = 4 then (if d_so D l = 1 then z_n 1 else z_n 0) else if j = 5 then (if d_so D l = 2 then z_n 1 else z_n 0) else if j = 6 then (if d_so D l = 3 then z_n 1 else z_n 0) else if j = 7 then z_n (d_tk D l) else if j = 8 then z_n (z_sum D.1 (d_ot D l (z_n 0) (d_hb D l))) else if j = 9 then z_n (z_sum D.1 (d_ot D (d_hb D l) (z_n 1) l)) else if j = 10 then x else if j = 11 then y else z
section
variable {S : z_SH} {I : z_MI} {J : z_MJ} {P : z_MP} {K : Nat → Bool} {n : Nat × Nat}
theorem d_kin_full {D : z_D} (h : d_ok D) {a i : Nat} (ha : a < D.1) (hi : i < D.1) : (d_full D a D i = true) = (d_kin D i a = 2) := by
  rw [d_kin_fh h hi]
  have e : d_full D a D i = d_full D i D a := by
    unfold d_full
    rw [Bool.eq_iff_iff]
    simp only [decide_eq_true_eq]
    constructor
    · rintro ⟨h1, h2, h3, h4⟩; exact ⟨by rw [← h2]; exact h1, h2.symm, by rw [← h4]; exact h3, h4.symm⟩
    · rintro ⟨h1, h2, h3, h4⟩; exact ⟨by rw [← h2]; exact h1, h2.symm, by rw [← h4]; exact h3, h4.symm⟩
  rw [e]
  by_cases q : d_full D i D a = true
  · rw [if_pos q]
    exact propext ⟨fun _ => rfl, fun _ => q⟩
  · rw [if_neg q]
    have n2 : ¬ (if d_half D i a = true then 1 else 0) = 2 := by split <;> omega
    exact propext ⟨fun h => absurd h q, fun h => absurd h n2⟩
set_option maxRecDepth 100000 in
set_option maxHeartbeats 4000000 in
theorem C_fullO {p l e w : Nat} {D : z_D} (h : z_ps S P p) (hd : z_pd I J p D) (hl : l < D.1) (he : e < D.1) (hD : d_ok D) (hw : w < 2) : f_Pa_fullOthers p (z_n l) (z_n e) (z_n w) (z_h S I J P n) = some (z_n (z_sum D.1 (d_ot D l (z_n w) e)), z_h S I J P n) := by
  have D1 := hD.1
  have r1 := z_ps_r h
  have sz := hd.sz
  have key := z_run (r := some (z_n (z_sum D.1 (d_ot D l (z_n w) e)), z_h S I J P n)) (fun m i => f_Pa_fullOthers_L6 p (z_n l) (z_n e) (z_n w) m (z_n (z_sum i (d_ot D l (z_n w) e))) (z_n i) (z_h S I J P n)) D.1 (by omega)
    (by
      intro m i hi
      have se := hd.se hi
      have fu := C_isFull (n := n) h h hd hd hl hi D1 D1
      have kf := d_kin_full hD hl hi
      rw [z_sum_s]
      unfold d_ot
      rcases z_tf (i = l) with c1 | c1
      · simp (disch := omega) only [f_Pa_fullOthers_L6, r1, sz, hi, c1, or_true, true_or, or_false, false_or, z_b_T, z_b_F, Bool.false_eq_true, Classical.not_not, decide_eq_true_eq, z_sq, Option.bind_some, z_lits, z_n_add, z_n_mul, z_lt, z_le, z_eq, z_ne1, z_1ne, z_lt1, z_1lt, z_ltT, z_ltF, z_leT, z_leF, z_eqF, z_b_0, z_b_1, ↓reduceIte, eq_self, not_true_eq_false, not_false_eq_true, and_true, true_and, and_false, false_and, Nat.add_zero, Nat.zero_add]
      · rcases z_tf (i = e) with c2 | c2
        · simp (disch := omega) only [f_Pa_fullOthers_L6, r1, sz, hi, c1, c2, or_true, true_or, or_false, false_or, z_b_T, z_b_F, Bool.false_eq_true, Classical.not_not, decide_eq_true_eq, z_sq, Option.bind_some, z_lits, z_n_add, z_n_mul, z_lt, z_le, z_eq, z_ne1, z_1ne, z_lt1, z_1lt, z_ltT, z_ltF, z_leT, z_leF, z_eqF, z_b_0, z_b_1, ↓reduceIte, eq_self, not_true_eq_false, not_false_eq_true, and_true, true_and, and_false, false_and, Nat.add_zero, Nat.zero_add]
        · rcases z_tf (D.2.1 0 i = z_n w) with c3 | c3
          · by_cases c4 : d_full D l D i = true
            · rw [z_b_t c4] at fu
              rw [kf] at c4
              simp (disch := omega) only [f_Pa_fullOthers_L6, r1, sz, hi, c1, c2, se, c3, fu, c4, or_true, true_or, or_false, false_or, z_b_T, z_b_F, Bool.false_eq_true, Classical.not_not, decide_eq_true_eq, z_sq, Option.bind_some, z_lits, z_n_add, z_n_mul, z_lt, z_le, z_eq, z_ne1, z_1ne, z_lt1, z_1lt, z_ltT, z_ltF, z_leT, z_leF, z_eqF, z_b_0, z_b_1, ↓reduceIte, eq_self, not_true_eq_false, not_false_eq_true, and_true, true_and, and_false, false_and, Nat.add_zero, Nat.zero_add]
            · rw [z_b_f c4] at fu
              rw [kf] at c4
              simp (disch := omega) only [f_Pa_fullOthers_L6, r1, sz, hi, c1, c2, se, c3, fu, c4, or_true, true_or, or_false, false_or, z_b_T, z_b_F, Bool.false_eq_true, Classical.not_not, decide_eq_true_eq, z_sq, Option.bind_some, z_lits, z_n_add, z_n_mul, z_lt, z_le, z_eq, z_ne1, z_1ne, z_lt1, z_1lt, z_ltT, z_ltF, z_leT, z_leF, z_eqF, z_b_0, z_b_1, ↓reduceIte, eq_self, not_true_eq_false, not_false_eq_true, and_true, true_and, and_false, false_and, Nat.add_zero, Nat.zero_add]
          · simp (disch := omega) only [f_Pa_fullOthers_L6, r1, sz, hi, c1, c2, se, c3, or_true, true_or, or_false, false_or, z_b_T, z_b_F, Bool.false_eq_true, Classical.not_not, decide_eq_true_eq, z_sq, Option.bind_some, z_lits, z_n_add, z_n_mul, z_lt, z_le, z_eq, z_ne1, z_1ne, z_lt1, z_1lt, z_ltT, z_ltF, z_leT, z_leF, z_eqF, z_b_0, z_b_1, ↓reduceIte, eq_self, not_true_eq_false, not_false_eq_true, and_true, true_and, and_false, false_and, Nat.add_zero, Nat.zero_add])
    (by
      intro m
      simp (disch := omega) only [f_Pa_fullOthers_L6, r1, sz, Nat.lt_irrefl, or_true, true_or, or_false, false_or, z_b_T, z_b_F, Bool.false_eq_true, Classical.not_not, decide_eq_true_eq, z_sq, Option.bind_some, z_lits, z_n_add, z_n_mul, z_lt, z_le, z_eq, z_ne1, z_1ne, z_lt1, z_1lt, z_ltT, z_ltF, z_leT, z_leF, z_eqF, z_b_0, z_b_1, ↓reduceIte, eq_self, not_true_eq_false, not_false_eq_true, and_true, true_and, and_false, false_and, Nat.add_zero, Nat.zero_add])
  simp only [z_sum_0] at key
  simp (disch := omega) only [f_Pa_fullOthers, key, or_true, true_or, or_false, false_or, z_b_T, z_b_F, Bool.false_eq_true, Classical.not_not, decide_eq_true_eq, z_sq, Option.bind_some, z_lits, z_n_add, z_n_mul, z_lt, z_le, z_eq, z_ne1, z_1ne, z_lt1, z_1lt, z_ltT, z_ltF, z_leT, z_leF, z_eqF, z_b_0, z_b_1, ↓reduceIte, eq_self, not_true_eq_false, not_false_eq_true, and_true, true_and, and_false, false_and, Nat.add_zero, Nat.zero_add]
set_option maxRecDepth 100000 in
set_option maxHeartbeats 4000000 in
theorem C_fill (B : z_B S I J P K n.1) {s l p : Nat} (hs : s < 24) (hp : P 18 s = some p) (h : z_pg S I J P K n.1 p (z_Ds I J s)) (hl : l < z_ln I s) (hw : d_wf (z_Ds I J s) l = true) : ∃ X, f_Rs_fillFacts 8 (z_n s) p (z_n l) (z_h S I J P n) = some ((), z_h S X J P n) ∧ (∀ a, a ≠ 35 → X a = I a) ∧ ∀ j, j < 13 → X 35 j = d_fc (z_Ds I J s) (I 87 s) (I 84 (z_vi I s)) (I 88 s) l j := by
  have hS := B.qS
  have hP := B.qP
  have D := B.qD hs
  have p131 : 131 ≤ p := h.1.1
  have hb := D.hbl hl hw
  have el : l < (z_Ds I J s).1 := hl
  obtain ⟨d1, d2⟩ := h.2.2
  have D12 := D.1
  obtain ⟨x1, x2, x3, x4⟩ := B.qC.1 s hs
  obtain ⟨v1, v2⟩ := B.qV s hs
  have x5 := B.qC.2.1 (z_vi I s) v2
  have hus : I (p + 7) l = z_n (d_hb (z_Ds I J s) l) := by
    rw [d1.w el]
    unfold d_wf at hw
    rw [decide_eq_true_eq] at hw
    exact ((D.2.1 l el).2.2.1.resolve_left hw.2).1
  have ag1 := d1.ag el
  have ag2 := d1.ag hb
  have so : I (p + 9) l = z_n (d_so (z_Ds I J s) l) := by rw [(d2.1 l el).1, if_pos hw]
  have sol := d_so_le (z_Ds I J s) l
  have tkl := d_tk_le (z_Ds I J s) l
  have tk : (if z_n 0 < I (p + 10) l then I (p + 10) l else z_n 0) = z_n (d_tk (z_Ds I J s) l) := by
    have e10 := (d2.1 l el).2
    by_cases q : d_so (z_Ds I J s) l = 0 ∨ d_so (z_Ds I J s) l = 2
    · rw [if_pos ⟨hw, q⟩] at e10
      rw [e10]
      by_cases q2 : 0 < d_tk (z_Ds I J s) l
      · rw [if_pos (by rw [z_lt (by omega) (by omega)]; exact q2)]
      · rw [if_neg (by rw [z_lt (by omega) (by omega)]; exact q2)]
        congr 1; omega
    · rw [if_neg (fun e => q e.2)] at e10
      rw [e10, if_neg (by decide)]
      unfold d_tk
      rw [if_neg q]
  have r0 := z_ps_r h.2.1
  have rd : ∀ L, z_pd (k_cc I 35 L) J p (z_Ds I J s) := fun L => z_pd_of d1 (fun a ha => k_cc_o (by omega) L)
  have fo1 := fun L => C_fullO (I := k_cc I 35 L) (n := n) h.2.1 (rd L) el hb D (w := 0) (by omega)
  have fo2 := fun L => C_fullO (I := k_cc I 35 L) (n := n) h.2.1 (rd L) hb el D (w := 1) (by omega)
  have has : f_Pa_has p (z_n (d_hb (z_Ds I J s) l)) (z_h S I J P n) = some (z_n 1, z_h S I J P n) := by
    have c := C_has (J := J) (n := n) h.2.1 d1.1 D.1 (l := d_hb (z_Ds I J s) l) (by omega)
    rw [z_b_t hb] at c; exact c
  generalize hhb : d_hb (z_Ds I J s) l = hb' at *
  have w : ∀ L i v, i < 13 → q_sa (z_h S (k_cc I 35 L) J P n) 20 35 (z_n i) (.int v) = some (z_h S (k_cc I 35 ((i, v) :: L)) J P n) := fun L i v hi => z_sai (s_35 hS) (by decide) (by omega) (z_rpl hi)
  have e0 : ∀ L i, q_gi (q_ga (z_h S (k_cc I 35 L) J P n) 20 (p + 5) (z_n l)) = some ((z_Ds I J s).2.1 1 l) := fun L i => by rw [r0.2.2.2.2.2.2.2.2.2.2.2.2.2.2.2.2.2.2.1 _ _ _ l (by omega), k_cc_o (by omega), ag1]
  have b0 : z_h S I J P n = z_h S (k_cc I 35 []) J P n := rfl
  have q5 : ∀ L i, i < 12 → q_gi (q_ga (z_h S (k_cc I 35 L) J P n) 20 (p + 5) (z_n i)) = some (I (p + 5) i) := fun L i hi => by rw [r0.2.2.2.2.2.2.2.2.2.2.2.2.2.2.2.2.2.2.1 _ _ _ i hi, k_cc_o (by omega)]
  have q9 : ∀ L i, i < 12 → q_gi (q_ga (z_h S (k_cc I 35 L) J P n) 20 (p + 9) (z_n i)) = some (I (p + 9) i) := fun L i hi => by rw [r0.2.2.2.2.2.2.2.2.2.2.2.2.2.2.2.2.2.2.2.2.2.2.1 _ _ _ i hi, k_cc_o (by omega)]
  have q10 : ∀ L i, i < 12 → q_gi (q_ga (z_h S (k_cc I 35 L) J P n) 20 (p + 10) (z_n i)) = some (I (p + 10) i) := fun L i hi => by rw [r0.2.2.2.2.2.2.2.2.2.2.2.2.2.2.2.2.2.2.2.2.2.2.2.1 _ _ _ i hi, k_cc_o (by omega)]
  have q7 : q_gi (q_ga (z_h S I J P n) 20 (p + 7) (z_n l)) = some (z_n hb') := by rw [r0.2.2.2.2.2.2.2.2.2.2.2.2.2.2.2.2.2.2.2.2.1 _ _ _ l (by omega), hus]
  have q15 : ∀ L, q_gi (q_ga (z_h S (k_cc I 35 L) J P n) 20 15 (z_n s)) = some (I 87 s) := fun L => by rw [z_gia (s_15 hS) (by omega) (z_rpl (by omega)), k_cc_o (by omega), x2]
  have q16 : ∀ L, q_gi (q_ga (z_h S (k_cc I 35 L) J P n) 20 16 (z_n s)) = some (I 88 s) := fun L => by rw [z_gia (s_16 hS) (by omega) (z_rpl (by omega)), k_cc_o (by omega), x3]
  have q19 : ∀ L, q_gi (q_ga (z_h S (k_cc I 35 L) J P n) 20 19 (I 87 s)) = some (I 84 (z_vi I s)) := fun L => by rw [v1, z_gia (s_19 hS) (by omega) (z_rpl (by omega)), k_cc_o (by omega), x5]
  have c3 : ∀ L, (if z_n (d_so (z_Ds I J s) l) = z_n 0 then (some (z_n 1, z_h S (k_cc I 35 L) J P n)) else (some (z_n 0, z_h S (k_cc I 35 L) J P n))) = some ((if d_so (z_Ds I J s) l = 0 then z_n 1 else z_n 0), z_h S (k_cc I 35 L) J P n) := by
    intro L
    by_cases q : d_so (z_Ds I J s) l = 0
    · rw [if_pos (by rw [q]), if_pos q]
    · rw [if_neg (by rw [z_eq (by omega) (by omega)]; exact q), if_neg q]
  have c4 : ∀ k, k < 5 → ∀ L, (if z_n (d_so (z_Ds I J s) l) = z_n k then (some (z_n 1, z_h S (k_cc I 35 L) J P n)) else (some (z_n 0, z_h S (k_cc I 35 L) J P n))) = some ((if d_so (z_Ds I J s) l = k then z_n 1 else z_n 0), z_h S (k_cc I 35 L) J P n) := by
    intro k hk L
    by_cases q : d_so (z_Ds I J s) l = k
    · rw [if_pos (by rw [q]), if_pos q]
    · rw [if_neg (by rw [z_eq (by omega) (by omega)]; exact q), if_neg q]
  have f9 : ∀ L, q_gr (q_gf (z_h S (k_cc I 35 L) J P n) 0 8 9) = some 35 := fun _ => z_gr (s_8 hS) rfl (p_8_9 hP)
  have f3 : ∀ L, q_gr (q_gf (z_h S (k_cc I 35 L) J P n) 0 8 3) = some 13 := fun _ => z_gr (s_8 hS) rfl (p_8_3 hP)
  have s1 : ∀ L, q_gr (q_gf (z_h S (k_cc I 35 L) J P n) 2 13 1) = some 15 := fun _ => z_gr (s_13 hS) rfl (p_13_1 hP)
  have s2 : ∀ L, q_gr (q_gf (z_h S (k_cc I 35 L) J P n) 2 13 2) = some 16 := fun _ => z_gr (s_13 hS) rfl (p_13_2 hP)
  have s5 : ∀ L, q_gr (q_gf (z_h S (k_cc I 35 L) J P n) 2 13 5) = some 19 := fun _ => z_gr (s_13 hS) rfl (p_13_5 hP)
  have a5 : ∀ L, q_gr (q_gf (z_h S (k_cc I 35 L) J P n) 8 p 5) = some (p + 5) := fun L => r0.2.2.2.2.2.2.2.1 _ _ _
  have a9 : ∀ L, q_gr (q_gf (z_h S (k_cc I 35 L) J P n) 8 p 9) = some (p + 9) := fun L => r0.2.2.2.2.2.2.2.2.2.2.2.1 _ _ _
  have a10 : ∀ L, q_gr (q_gf (z_h S (k_cc I 35 L) J P n) 8 p 10) = some (p + 10) := fun L => r0.2.2.2.2.2.2.2.2.2.2.2.2.1 _ _ _
  have a7 : q_gr (q_gf (z_h S I J P n) 8 p 7) = some (p + 7) := r0.2.2.2.2.2.2.2.2.2.1 _ _ _
  have ob : ∀ L, q_ob (z_h S (k_cc I 35 L) J P n) 8 p = some _ := fun L => r0.1 _ _ _
  have ob0 : q_ob (z_h S I J P n) 8 p = some _ := r0.1 _ _ _
  have d9 : I (p + 9) l = z_n (d_so (z_Ds I J s) l) := so
  refine ⟨k_cc I 35 [(12, I 88 s), (11, I 84 (z_vi I s)), (10, I 87 s), (9, z_n (z_sum (z_Ds I J s).1 (d_ot (z_Ds I J s) hb' (z_n 1) l))), (8, z_n (z_sum (z_Ds I J s).1 (d_ot (z_Ds I J s) l (z_n 0) hb'))), (7, z_n (d_tk (z_Ds I J s) l)), (6, if d_so (z_Ds I J s) l = 3 then z_n 1 else z_n 0), (5, if d_so (z_Ds I J s) l = 2 then z_n 1 else z_n 0), (4, if d_so (z_Ds I J s) l = 1 then z_n 1 else z_n 0), (3, if d_so (z_Ds I J s) l = 0 then z_n 1 else z_n 0), (2, (z_Ds I J s).2.1 1 l), (1, (z_Ds I J s).2.1 1 hb'), (0, (z_Ds I J s).2.1 1 hb' - (z_Ds I J s).2.1 1 l)], ?_, fun a ha => k_cc_o ha _, fun j hj => ?_⟩
  · unfold f_Rs_fillFacts
    rw [a7, Option.bind_some, q7, Option.bind_some, ob0, Option.bind_some, has, z_sq, if_neg (by decide), b0]
    simp only [z_lits]
    rw [f3, Option.bind_some, s1, Option.bind_some, q15, Option.bind_some, f9, Option.bind_some, a5, Option.bind_some, q5 _ _ (by omega), Option.bind_some, Option.bind_some, q5 _ _ (by omega), Option.bind_some, w _ _ _ (by omega), Option.bind_some]
    rw [f9, Option.bind_some, a5, Option.bind_some, q5 _ _ (by omega), Option.bind_some, w _ _ _ (by omega), Option.bind_some]
    rw [f9, Option.bind_some, a5, Option.bind_some, q5 _ _ (by omega), Option.bind_some, w _ _ _ (by omega), Option.bind_some]
    rw [f9, Option.bind_some, a9, Option.bind_some, q9 _ _ (by omega), Option.bind_some, d9, c4 0 (by omega), z_sq, w _ _ _ (by omega), Option.bind_some]
    rw [f9, Option.bind_some, a9, Option.bind_some, q9 _ _ (by omega), Option.bind_some, d9, c4 1 (by omega), z_sq, w _ _ _ (by omega), Option.bind_some]
    rw [f9, Option.bind_some, a9, Option.bind_some, q9 _ _ (by omega), Option.bind_some, d9, c4 2 (by omega), z_sq, w _ _ _ (by omega), Option.bind_some]
    rw [f9, Option.bind_some, a9, Option.bind_some, q9 _ _ (by omega), Option.bind_some, d9, c4 3 (by omega), z_sq, w _ _ _ (by omega), Option.bind_some]
    rw [f9, Option.bind_some, a10, Option.bind_some, q10 _ _ (by omega), Option.bind_some, tk, w _ _ _ (by omega), Option.bind_some]
    rw [f9, Option.bind_some, ob, Option.bind_some, fo1, z_sq, w _ _ _ (by omega), Option.bind_some]
    rw [f9, Option.bind_some, ob, Option.bind_some, fo2, z_sq, w _ _ _ (by omega), Option.bind_some]
    rw [f9, Option.bind_some, w _ _ _ (by omega), Option.bind_some]
    rw [f9, Option.bind_some, f3, Option.bind_some, s5, Option.bind_some, q19, Option.bind_some, w _ _ _ (by omega), Option.bind_some]
    rw [f9, Option.bind_some, f3, Option.bind_some, s2, Option.bind_some, q16, Option.bind_some, w _ _ _ (by omega), Option.bind_some, ag1, ag2]
  · have : j = 0 ∨ j = 1 ∨ j = 2 ∨ j = 3 ∨ j = 4 ∨ j = 5 ∨ j = 6 ∨ j = 7 ∨ j = 8 ∨ j = 9 ∨ j = 10 ∨ j = 11 ∨ j = 12 := by omega
    unfold d_fc
    rw [hhb]
    rcases this with rfl | rfl | rfl | rfl | rfl | rfl | rfl | rfl | rfl | rfl | rfl | rfl | rfl <;> simp only [k_cc_e] <;> rfl
end
