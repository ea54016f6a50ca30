/-! COUNT: the pair. -/
theorem z_aor (a b c : Int32) : (a ||| b) &&& c = (a &&& c) ||| (b &&& c) := by
  apply Int32.toBitVec_inj.mp
  rw [Int32.toBitVec_and, Int32.toBitVec_or, Int32.toBitVec_or, Int32.toBitVec_and, Int32.toBitVec_and]
  apply BitVec.eq_of_getLsbD_eq
  intro i hi
  simp only [BitVec.getLsbD_and, BitVec.getLsbD_or]
  cases a.toBitVec.getLsbD i <;> cases b.toBitVec.getLsbD i <;> cases c.toBitVec.getLsbD i <;> rfl
theorem u_t12 : ∀ c, c < 256 → z_n c &&& z_n 12 = z_n (c % 16) &&& z_n 12 := by decide +kernel
theorem u_tt : ∀ a, a < 16 → ∀ b, b < 16 → ((z_n a ||| z_n b) &&& z_n 12 = z_n 0 ∨ z_n 0 < (z_n a ||| z_n b) &&& z_n 12) := by decide +kernel
theorem d_tg_12 {D : z_D} (h : d_ok D) {l : Nat} (hl : l < D.1) : z_n (d_tg D l) &&& z_n 12 = D.2.1 4 l &&& z_n 12 := by
  obtain ⟨-, -, -, -, ⟨t, e, ht⟩, -⟩ := h.2.1 l hl
  have e2 : (D.2.1 4 l).toNatClampNeg = t := by rw [e]; exact z_n_nat (by omega)
  have b : d_tg D l < 256 ∧ d_tg D l % 16 = t := by
    unfold d_tg
    rw [e2]
    split <;> split <;> split <;> split <;> omega
  rw [u_t12 _ b.1, b.2, e]
section
variable {S : z_SH} {I : z_MI} {J : z_MJ} {P : z_MP} {K : Nat → Bool} {n : Nat × Nat}
/-- a MARRIAGE that isn't free -/
def u_ty (I : z_MI) (s l : Nat) : Nat := if z_wf I s l = true ∧ z_n 0 < (I 95 (12 * s + l) ||| I 95 (12 * s + z_hb I (12 * s + l))) &&& z_n 12 then 1 else 0
def u_tys (I : z_MI) (N : Nat) : Nat := z_sum N fun s => if z_th I s = true then z_sum (z_ln I s) (u_ty I s) else 0
set_option maxRecDepth 100000 in
set_option maxHeartbeats 4000000 in
theorem C_unfree (B : z_B S I J P K n.1) : f_Rs_unfreeMarriages 8 (z_h S I J P n) = some (z_n (u_tys I 24), z_h S I J P n) := by
  have hS := B.qS
  have hP := B.qP
  obtain ⟨o1, o2, o3, o4, o5⟩ := C_hob (n := n) hS hP
  have h := z_run (fun m s => f_Rs_unfreeMarriages_L4 8 m (z_n (u_tys I s)) (z_n s) (z_h S I J P n)) 24 (r := some (z_n (u_tys I 24), z_h S I J P n)) (by omega)
    (by
      intro m s hs
      have p1 := C_pageOf (I := I) (J := J) (n := n) hS hP hs
      have es : u_tys I (s + 1) = u_tys I s + if z_th I s = true then z_sum (z_ln I s) (u_ty I s) else 0 := rfl
      rw [es]
      generalize u_tys I s = N
      by_cases h1 : z_th I s = true
      · obtain ⟨p, e1, e2, e3⟩ := h_pg B (fun _ _ => rfl) hs h1
        have D := B.qD hs
        have l12 : z_ln I s ≤ 12 := D.1
        have r1 := z_ps_r e2
        have sz : I p 0 = z_n (z_ln I s) := e3.1
        have obp : ∀ I J, q_ob (z_h S I J P n) 8 p = some (z_vs I J P p [0, 2, 2, 2, 2, 2, 2, 2, 2, 2, 2, 2]) := fun I J => (z_ps_r e2).1 I J n
        have k := z_run (fun m i => f_Rs_unfreeMarriages_L22 8 (z_n s) (some p) m (z_n (N + z_sum i (u_ty I s))) (z_n i) (z_h S I J P n)) (z_ln I s) (r := some (z_n (N + z_sum (z_ln I s) (u_ty I s)), z_h S I J P n)) (by omega)
          (by
            intro m i hi
            have hw : I (p + 7) i = I 93 (12 * s + i) := e3.w hi
            have tg : I (p + 6) i = z_n (d_tg (z_Ds I J s) i) := e3.tg hi
            rw [z_sum_s, ← Nat.add_assoc]
            unfold u_ty
            rcases B.qW s hs i hi with w1 | ⟨w1, w2⟩
            · have nw : ¬ z_wf I s i = true := by unfold z_wf; rw [decide_eq_true_eq]; exact fun q => q.2.2 w1
              have hh := C_has_o (J := J) (n := n) e2 sz D.1 (l := -z_n 1) z_o_n1
              rw [if_neg (fun q => nw q.1)]
              simp (disch := omega) only [f_Rs_unfreeMarriages_L22, r1, sz, hi, hw, w1, obp, hh, or_true, true_or, or_false, false_or, z_b_T, z_b_F, Bool.false_eq_true, Classical.not_not, decide_eq_true_eq, z_sq, Option.bind_some, z_lits, z_n_add, z_n_mul, z_lt, z_le, z_eq, z_ne1, z_1ne, z_lt1, z_1lt, z_ltT, z_ltF, z_leT, z_leF, z_eqF, z_b_0, z_b_1, ↓reduceIte, eq_self, not_true_eq_false, not_false_eq_true, and_true, true_and, and_false, false_and, Nat.add_zero, Nat.zero_add]
            · have yw : z_wf I s i = true := by
                unfold z_wf; rw [decide_eq_true_eq]
                refine ⟨h1, hi, fun q => ?_⟩
                rw [w1, z_ne1 (by omega)] at q; exact q
              have hh := C_has (J := J) (n := n) e2 e3.1 D.1 (l := z_hb I (12 * s + i)) (by omega)
              rw [z_b_t (show z_hb I (12 * s + i) < (z_Ds I J s).1 from w2)] at hh
              have tg2 : I (p + 6) (z_hb I (12 * s + i)) = z_n (d_tg (z_Ds I J s) (z_hb I (12 * s + i))) := e3.tg w2
              obtain ⟨-, -, -, -, ⟨t1, g1, g2⟩, -⟩ := D.2.1 i hi
              obtain ⟨-, -, -, -, ⟨t2, g3, g4⟩, -⟩ := D.2.1 _ w2
              have a1 := d_tg_12 D hi
              have a2 := d_tg_12 D w2
              have b1 : (z_Ds I J s).2.1 4 i = I 95 (12 * s + i) := rfl
              have b2 : (z_Ds I J s).2.1 4 (z_hb I (12 * s + i)) = I 95 (12 * s + z_hb I (12 * s + i)) := rfl
              rw [b1] at g1 a1
              rw [b2] at g3 a2
              have cc : (z_n (d_tg (z_Ds I J s) i) ||| z_n (d_tg (z_Ds I J s) (z_hb I (12 * s + i)))) &&& z_n 12 = (I 95 (12 * s + i) ||| I 95 (12 * s + z_hb I (12 * s + i))) &&& z_n 12 := by rw [z_aor, z_aor, a1, a2]
              have tt := u_tt t1 g2 t2 g4
              rw [← g1, ← g3] at tt
              generalize I 95 (12 * s + i) ||| I 95 (12 * s + z_hb I (12 * s + i)) = y at *
              have hb12 : z_hb I (12 * s + i) < 12 := by omega
              have lt12 : (12 : Int32) = z_n 12 := rfl
              rcases tt with tt | tt
              · rw [if_neg (fun q => by rw [tt] at q; exact Int32.lt_irrefl q.2)]
                simp (disch := omega) only [f_Rs_unfreeMarriages_L22, r1, sz, hi, hw, w1, obp, hh, tg, tg2, lt12, cc, tt, or_true, true_or, or_false, false_or, z_b_T, z_b_F, Bool.false_eq_true, Classical.not_not, decide_eq_true_eq, z_sq, Option.bind_some, z_lits, z_n_add, z_n_mul, z_lt, z_le, z_eq, z_ne1, z_1ne, z_lt1, z_1lt, z_ltT, z_ltF, z_leT, z_leF, z_eqF, z_b_0, z_b_1, ↓reduceIte, eq_self, not_true_eq_false, not_false_eq_true, and_true, true_and, and_false, false_and, Nat.add_zero, Nat.zero_add]
              · have ne : ¬ y &&& z_n 12 = z_n 0 := fun q => by rw [q] at tt; exact Int32.lt_irrefl tt
                rw [if_pos ⟨yw, tt⟩]
                simp (disch := omega) only [f_Rs_unfreeMarriages_L22, r1, sz, hi, hw, w1, obp, hh, tg, tg2, lt12, cc, ne, or_true, true_or, or_false, false_or, z_b_T, z_b_F, Bool.false_eq_true, Classical.not_not, decide_eq_true_eq, z_sq, Option.bind_some, z_lits, z_n_add, z_n_mul, z_lt, z_le, z_eq, z_ne1, z_1ne, z_lt1, z_1lt, z_ltT, z_ltF, z_leT, z_leF, z_eqF, z_b_0, z_b_1, ↓reduceIte, eq_self, not_true_eq_false, not_false_eq_true, and_true, true_and, and_false, false_and, Nat.add_zero, Nat.zero_add])
          (by
            intro m
            simp (disch := omega) only [f_Rs_unfreeMarriages_L22, r1, sz, Nat.lt_irrefl, or_true, true_or, or_false, false_or, z_b_T, z_b_F, Bool.false_eq_true, Classical.not_not, decide_eq_true_eq, z_sq, Option.bind_some, z_lits, z_n_add, z_n_mul, z_lt, z_le, z_eq, z_ne1, z_1ne, z_lt1, z_1lt, z_ltT, z_ltF, z_leT, z_leF, z_eqF, z_b_0, z_b_1, ↓reduceIte, eq_self, not_true_eq_false, not_false_eq_true, and_true, true_and, and_false, false_and, Nat.add_zero, Nat.zero_add])
        simp only [z_sum_0, Nat.add_zero] at k
        rw [if_pos h1]
        simp (disch := omega) only [f_Rs_unfreeMarriages_L4, hs, o2, o4, p1, e1, k, or_true, true_or, or_false, false_or, z_b_T, z_b_F, Bool.false_eq_true, Classical.not_not, decide_eq_true_eq, z_sq, Option.bind_some, z_lits, z_n_add, z_n_mul, z_lt, z_le, z_eq, z_ne1, z_1ne, z_lt1, z_1lt, z_ltT, z_ltF, z_leT, z_leF, z_eqF, z_b_0, z_b_1, ↓reduceIte, eq_self, not_true_eq_false, not_false_eq_true, and_true, true_and, and_false, false_and, Nat.add_zero, Nat.zero_add]
      · have e0 := h_pn B hs h1
        have k : f_Rs_unfreeMarriages_L22 8 (z_n s) none q_FU (z_n N) (z_n 0) (z_h S I J P n) = some (z_n N, z_h S I J P n) := rfl
        rw [if_neg h1]
        simp (disch := omega) only [f_Rs_unfreeMarriages_L4, hs, o2, o4, p1, e0, k, or_true, true_or, or_false, false_or, z_b_T, z_b_F, Bool.false_eq_true, Classical.not_not, decide_eq_true_eq, z_sq, Option.bind_some, z_lits, z_n_add, z_n_mul, z_lt, z_le, z_eq, z_ne1, z_1ne, z_lt1, z_1lt, z_ltT, z_ltF, z_leT, z_leF, z_eqF, z_b_0, z_b_1, ↓reduceIte, eq_self, not_true_eq_false, not_false_eq_true, and_true, true_and, and_false, false_and, Nat.add_zero, Nat.zero_add])
    (by
      intro m
      simp (disch := omega) only [f_Rs_unfreeMarriages_L4, Nat.lt_irrefl, or_true, true_or, or_false, false_or, z_b_T, z_b_F, Bool.false_eq_true, Classical.not_not, decide_eq_true_eq, z_sq, Option.bind_some, z_lits, z_n_add, z_n_mul, z_lt, z_le, z_eq, z_ne1, z_1ne, z_lt1, z_1lt, z_ltT, z_ltF, z_leT, z_leF, z_eqF, z_b_0, z_b_1, ↓reduceIte, eq_self, not_true_eq_false, not_false_eq_true, and_true, true_and, and_false, false_and, Nat.add_zero, Nat.zero_add])
  have h0 : u_tys I 0 = 0 := rfl
  rw [h0] at h
  simp (disch := omega) only [f_Rs_unfreeMarriages, h, or_true, true_or, or_false, false_or, z_b_T, z_b_F, Bool.false_eq_true, Classical.not_not, decide_eq_true_eq, z_sq, Option.bind_some, z_lits, z_n_add, z_n_mul, z_lt, z_le, z_eq, z_ne1, z_1ne, z_lt1, z_1lt, z_ltT, z_ltF, z_leT, z_leF, z_eqF, z_b_0, z_b_1, ↓reduceIte, eq_self, not_true_eq_false, not_false_eq_true, and_true, true_and, and_false, false_and, Nat.add_zero, Nat.zero_add]
set_option maxRecDepth 100000 in
set_option maxHeartbeats 4000000 in
theorem M_ties (B : z_B S I J P K n.1) {Y : z_MI} (c : z_cg I J Y J) : f_Mo_ties 83 (z_h S Y J P n) = some (z_n (u_tys I 24), z_h S Y J P n) := by
  have hS := B.qS
  have hP := B.qP
  have om := fun I J => z_ob (I := I) (J := J) (P := P) (n := n) (s_83 hS)
  have h := z_run (fun m s => f_Mo_ties_L4 83 m (z_n (u_tys I s)) (z_n s) (z_h S Y J P n)) 24 (r := some (z_n (u_tys I 24), z_h S Y J P n)) (by omega)
    (by
      intro m s hs
      have th := M_isThere (n := n) (I := Y) (J := J) hS hP hs
      rw [z_th_c c] at th
      have es : u_tys I (s + 1) = u_tys I s + if z_th I s = true then z_sum (z_ln I s) (u_ty I s) else 0 := rfl
      rw [es]
      generalize u_tys I s = N
      by_cases h1 : z_th I s = true
      · rw [z_b_t h1] at th
        have l12 : z_ln I s ≤ 12 := (B.qD hs).1
        have hL : Y 90 s = z_n (z_ln I s) := by rw [c.i 90 rfl]; exact (B.qL s (by omega)).1
        have k := z_run (fun m i => f_Mo_ties_L12 83 (z_n s) m (z_n (N + z_sum i (u_ty I s))) (z_n i) (z_h S Y J P n)) (z_ln I s) (r := some (z_n (N + z_sum (z_ln I s) (u_ty I s)), z_h S Y J P n)) (by omega)
          (by
            intro m i hi
            have iw := M_isWife (n := n) (J := J) hS hP (z_lL_c c B.qL) (z_lW_c c B.qW) hs (show i ≤ 11 by omega)
            rw [z_wf_c c] at iw
            have e1 : Y 95 (12 * s + i) = I 95 (12 * s + i) := c.i 95 rfl _
            rw [z_sum_s, ← Nat.add_assoc]
            unfold u_ty
            by_cases yw : z_wf I s i = true
            · obtain ⟨-, -, -, w1, w2⟩ := z_wfW B.qW B.qL hs yw
              rw [z_b_t yw] at iw
              have w3 : Y 93 (12 * s + i) = z_n (z_hb Y (12 * s + i)) := by rw [c.i 93 rfl, z_hb_c c]; exact w1
              have hu := M_husband (n := n) (J := J) hS hP hs (show i < 12 by omega) w3
              rw [z_hb_c c] at hu
              have e2 : Y 95 (12 * s + z_hb I (12 * s + i)) = I 95 (12 * s + z_hb I (12 * s + i)) := c.i 95 rfl _
              have lt12 : (12 : Int32) = z_n 12 := rfl
              have e3 : ∀ x, z_n 12 * z_n s + z_n x = z_n (12 * s + x) := fun x => by rw [z_n_mul, z_n_add]
              rcases z_tf (z_n 0 < (I 95 (12 * s + i) ||| I 95 (12 * s + z_hb I (12 * s + i))) &&& z_n 12) with c1 | c1 <;> simp (disch := omega) only [f_Mo_ties_L12, om, th, z_Mr hS hP, hL, hi, iw, hu, e1, e2, yw, c1, or_true, true_or, or_false, false_or, z_b_T, z_b_F, Bool.false_eq_true, Classical.not_not, decide_eq_true_eq, z_sq, Option.bind_some, z_lits, z_n_add, z_n_mul, z_lt, z_le, z_eq, z_ne1, z_1ne, z_lt1, z_1lt, z_ltT, z_ltF, z_leT, z_leF, z_eqF, z_b_0, z_b_1, ↓reduceIte, eq_self, not_true_eq_false, not_false_eq_true, and_true, true_and, and_false, false_and, Nat.add_zero, Nat.zero_add]
            · rw [z_b_f yw] at iw
              rw [if_neg (fun q => yw q.1)]
              simp (disch := omega) only [f_Mo_ties_L12, om, th, z_Mr hS hP, hL, hi, iw, or_true, true_or, or_false, false_or, z_b_T, z_b_F, Bool.false_eq_true, Classical.not_not, decide_eq_true_eq, z_sq, Option.bind_some, z_lits, z_n_add, z_n_mul, z_lt, z_le, z_eq, z_ne1, z_1ne, z_lt1, z_1lt, z_ltT, z_ltF, z_leT, z_leF, z_eqF, z_b_0, z_b_1, ↓reduceIte, eq_self, not_true_eq_false, not_false_eq_true, and_true, true_and, and_false, false_and, Nat.add_zero, Nat.zero_add])
          (by
            intro m
            simp (disch := omega) only [f_Mo_ties_L12, om, th, z_Mr hS hP, hL, Nat.lt_irrefl, or_true, true_or, or_false, false_or, z_b_T, z_b_F, Bool.false_eq_true, Classical.not_not, decide_eq_true_eq, z_sq, Option.bind_some, z_lits, z_n_add, z_n_mul, z_lt, z_le, z_eq, z_ne1, z_1ne, z_lt1, z_1lt, z_ltT, z_ltF, z_leT, z_leF, z_eqF, z_b_0, z_b_1, ↓reduceIte, eq_self, not_true_eq_false, not_false_eq_true, and_true, true_and, and_false, false_and, Nat.add_zero, Nat.zero_add])
        simp only [z_sum_0, Nat.add_zero] at k
        rw [if_pos h1]
        simp (disch := omega) only [f_Mo_ties_L4, hs, k, or_true, true_or, or_false, false_or, z_b_T, z_b_F, Bool.false_eq_true, Classical.not_not, decide_eq_true_eq, z_sq, Option.bind_some, z_lits, z_n_add, z_n_mul, z_lt, z_le, z_eq, z_ne1, z_1ne, z_lt1, z_1lt, z_ltT, z_ltF, z_leT, z_leF, z_eqF, z_b_0, z_b_1, ↓reduceIte, eq_self, not_true_eq_false, not_false_eq_true, and_true, true_and, and_false, false_and, Nat.add_zero, Nat.zero_add]
      · rw [z_b_f h1] at th
        have k : ∀ m, f_Mo_ties_L12 83 (z_n s) (m + 1) (z_n N) (z_n 0) (z_h S Y J P n) = some (z_n N, z_h S Y J P n) := by
          intro m
          simp (disch := omega) only [f_Mo_ties_L12, om, th, or_true, true_or, or_false, false_or, z_b_T, z_b_F, Bool.false_eq_true, Classical.not_not, decide_eq_true_eq, z_sq, Option.bind_some, z_lits, z_n_add, z_n_mul, z_lt, z_le, z_eq, z_ne1, z_1ne, z_lt1, z_1lt, z_ltT, z_ltF, z_leT, z_leF, z_eqF, z_b_0, z_b_1, ↓reduceIte, eq_self, not_true_eq_false, not_false_eq_true, and_true, true_and, and_false, false_and, Nat.add_zero, Nat.zero_add]
        have k := k 999999
        change f_Mo_ties_L12 83 (z_n s) q_FU (z_n N) (z_n 0) (z_h S Y J P n) = _ at k
        rw [if_neg h1]
        simp (disch := omega) only [f_Mo_ties_L4, hs, k, or_true, true_or, or_false, false_or, z_b_T, z_b_F, Bool.false_eq_true, Classical.not_not, decide_eq_true_eq, z_sq, Option.bind_some, z_lits, z_n_add, z_n_mul, z_lt, z_le, z_eq, z_ne1, z_1ne, z_lt1, z_1lt, z_ltT, z_ltF, z_leT, z_leF, z_eqF, z_b_0, z_b_1, ↓reduceIte, eq_self, not_true_eq_false, not_false_eq_true, and_true, true_and, and_false, false_and, Nat.add_zero, Nat.zero_add])
    (by
      intro m
      simp (disch := omega) only [f_Mo_ties_L4, Nat.lt_irrefl, or_true, true_or, or_false, false_or, z_b_T, z_b_F, Bool.false_eq_true, Classical.not_not, decide_eq_true_eq, z_sq, Option.bind_some, z_lits, z_n_add, z_n_mul, z_lt, z_le, z_eq, z_ne1, z_1ne, z_lt1, z_1lt, z_ltT, z_ltF, z_leT, z_leF, z_eqF, z_b_0, z_b_1, ↓reduceIte, eq_self, not_true_eq_false, not_false_eq_true, and_true, true_and, and_false, false_and, Nat.add_zero, Nat.zero_add])
  have h0 : u_tys I 0 = 0 := rfl
  rw [h0] at h
  simp (disch := omega) only [f_Mo_ties, h, or_true, true_or, or_false, false_or, z_b_T, z_b_F, Bool.false_eq_true, Classical.not_not, decide_eq_true_eq, z_sq, Option.bind_some, z_lits, z_n_add, z_n_mul, z_lt, z_le, z_eq, z_ne1, z_1ne, z_lt1, z_1lt, z_ltT, z_ltF, z_leT, z_leF, z_eqF, z_b_0, z_b_1, ↓reduceIte, eq_self, not_true_eq_false, not_false_eq_true, and_true, true_and, and_false, false_and, Nat.add_zero, Nat.zero_add]
end
