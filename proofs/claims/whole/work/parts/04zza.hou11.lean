/-! KNOWN, young: the pairs. -/
section
variable {S : z_SH} {I : z_MI} {J : z_MJ} {P : z_MP} {K : Nat → Bool} {n : Nat × Nat}
theorem M_known_no (hS : z_St S) {a b d : Int32} (h : f_Mo_isLine 83 a b (z_h S I J P n) = some (z_n 0, z_h S I J P n) ∨ (f_Mo_isLine 83 a b (z_h S I J P n) = some (z_n 1, z_h S I J P n) ∧ z_o d 1)) : f_Mo_known 83 a b d (z_h S I J P n) = some (z_n 0, z_h S (z_up I 83 0 (z_n 1)) J P n) := by
  have om := fun I J => z_ob (I := I) (J := J) (P := P) (n := n) (s_83 hS)
  rcases h with h | ⟨h, hd⟩
  · simp (disch := omega) only [f_Mo_known, om, h, M_thr hS, M_r0 hS, z_up_s, or_true, true_or, or_false, false_or, z_b_T, z_b_F, Bool.false_eq_true, Classical.not_not, decide_eq_true_eq, z_sq, Option.bind_some, z_lits, z_n_add, z_n_mul, z_lt, z_le, z_eq, z_ne1, z_1ne, z_lt1, z_1lt, z_ltT, z_ltF, z_leT, z_leF, z_eqF, z_b_0, z_b_1, ↓reduceIte, eq_self, not_true_eq_false, not_false_eq_true, and_true, true_and, and_false, false_and, Nat.add_zero, Nat.zero_add]
  · simp (disch := omega) only [f_Mo_known, om, h, M_wout hd, M_thr hS, M_r0 hS, z_up_s, or_true, true_or, or_false, false_or, z_b_T, z_b_F, Bool.false_eq_true, Classical.not_not, decide_eq_true_eq, z_sq, Option.bind_some, z_lits, z_n_add, z_n_mul, z_lt, z_le, z_eq, z_ne1, z_1ne, z_lt1, z_1lt, z_ltT, z_ltF, z_leT, z_leF, z_eqF, z_b_0, z_b_1, ↓reduceIte, eq_self, not_true_eq_false, not_false_eq_true, and_true, true_and, and_false, false_and, Nat.add_zero, Nat.zero_add]
theorem h_pairt.no {fc : q_H → Option (Option Int32 × q_H)} {fm : q_H → Option (Int32 × q_H)} (ho : h_ok I J) {r2 : Int32} (h1 : fc (z_h S I J P n) = some (none, q_th (z_h S I J P n))) (h2 : fm (z_h S I J P (n.1 + 1, n.2 + 6)) = some (r2, z_h S (z_up I 83 0 (z_n 1)) J P (n.1 + 1, n.2 + 6))) : h_pairt fc fm S I J P n :=
  ⟨none, r2, I, (n.1 + 1, n.2 + 6), _, h1, fun _ _ => rfl, ⟨by omega, by simp, by simp⟩, ho, h2, z_mf.up rfl, by rw [z_up_s]⟩
set_option maxRecDepth 100000 in
set_option maxHeartbeats 4000000 in
theorem X_known (B : z_B S I J P K n.1) (ho : h_ok I J) (a b d : Int32) : h_pairt (f_Rs_known 8 a b d) (f_Mo_known 83 a b d) S I J P n := by
  have hS := B.qS
  have hP := B.qP
  obtain ⟨o1, o2, o3, o4, o5⟩ := C_hob (n := n) hS hP
  rcases z_in a 23 (by omega) with ⟨s, hs, rfl⟩ | ha
  rotate_left
  · refine h_pairt.no ho (r2 := z_n 0) ?_ (M_known_no hS (Or.inl (M_isLine_oo hS hP ha)))
    simp (disch := omega) only [f_Rs_known, o2, o4, C_pageOf_o ha, or_true, true_or, or_false, false_or, z_b_T, z_b_F, Bool.false_eq_true, Classical.not_not, decide_eq_true_eq, z_sq, Option.bind_some, z_lits, z_n_add, z_n_mul, z_lt, z_le, z_eq, z_ne1, z_1ne, z_lt1, z_1lt, z_ltT, z_ltF, z_leT, z_leF, z_eqF, z_b_0, z_b_1, ↓reduceIte, eq_self, not_true_eq_false, not_false_eq_true, and_true, true_and, and_false, false_and, Nat.add_zero, Nat.zero_add]
  have p1 := C_pageOf (I := I) (J := J) (n := n) hS hP (show s < 24 by omega)
  by_cases h1 : z_th I s = true
  rotate_left
  · have e0 := h_pn B (show s < 24 by omega) h1
    have cl : f_Rs_known 8 (z_n s) b d (z_h S I J P n) = some (none, q_th (z_h S I J P n)) := by simp (disch := omega) only [f_Rs_known, o2, o4, p1, e0, or_true, true_or, or_false, false_or, z_b_T, z_b_F, Bool.false_eq_true, Classical.not_not, decide_eq_true_eq, z_sq, Option.bind_some, z_lits, z_n_add, z_n_mul, z_lt, z_le, z_eq, z_ne1, z_1ne, z_lt1, z_1lt, z_ltT, z_ltF, z_leT, z_leF, z_eqF, z_b_0, z_b_1, ↓reduceIte, eq_self, not_true_eq_false, not_false_eq_true, and_true, true_and, and_false, false_and, Nat.add_zero, Nat.zero_add]
    rcases z_in b 11 (by omega) with ⟨l, hl, rfl⟩ | hb
    · refine h_pairt.no ho (r2 := z_n 0) cl (M_known_no hS (Or.inl ?_))
      have k := M_isLine (n := (n.1 + 1, n.2 + 6)) (J := J) hS hP B.qL (s := s) (by omega) hl
      rw [z_b_f (fun q => h1 q.1)] at k
      exact k
    · exact h_pairt.no ho (r2 := z_n 0) cl (M_known_no hS (Or.inl (M_isLine_o hS hP B.qL (by omega) hb)))
  obtain ⟨p, e1, e2, e3⟩ := h_pg B (fun _ _ => rfl) (show s < 24 by omega) h1
  have D := B.qD (show s < 24 by omega)
  have obp : ∀ I J, q_ob (z_h S I J P n) 8 p = some (z_vs I J P p [0, 2, 2, 2, 2, 2, 2, 2, 2, 2, 2, 2]) := fun I J => (z_ps_r e2).1 I J n
  have e4 : I p 0 = z_n (z_Ds I J s).1 := e3.1
  rcases z_in b 11 (by omega) with ⟨l, hl, rfl⟩ | hb
  rotate_left
  · refine h_pairt.no ho (r2 := z_n 0) ?_ (M_known_no hS (Or.inl (M_isLine_o hS hP B.qL (by omega) hb)))
    have hh := C_has_o (J := J) (n := n) e2 e4 D.1 hb
    simp (disch := omega) only [f_Rs_known, o2, o4, p1, e1, obp, hh, or_true, true_or, or_false, false_or, z_b_T, z_b_F, Bool.false_eq_true, Classical.not_not, decide_eq_true_eq, z_sq, Option.bind_some, z_lits, z_n_add, z_n_mul, z_lt, z_le, z_eq, z_ne1, z_1ne, z_lt1, z_1lt, z_ltT, z_ltF, z_leT, z_leF, z_eqF, z_b_0, z_b_1, ↓reduceIte, eq_self, not_true_eq_false, not_false_eq_true, and_true, true_and, and_false, false_and, Nat.add_zero, Nat.zero_add]
  have hh := C_has (J := J) (n := n) e2 e4 D.1 hl
  have es : (z_Ds I J s).1 = z_ln I s := rfl
  rw [es] at hh
  by_cases h2 : l < z_ln I s
  rotate_left
  · rw [z_b_f h2] at hh
    refine h_pairt.no ho (r2 := z_n 0) ?_ (M_known_no hS (Or.inl ?_))
    · simp (disch := omega) only [f_Rs_known, o2, o4, p1, e1, obp, hh, or_true, true_or, or_false, false_or, z_b_T, z_b_F, Bool.false_eq_true, Classical.not_not, decide_eq_true_eq, z_sq, Option.bind_some, z_lits, z_n_add, z_n_mul, z_lt, z_le, z_eq, z_ne1, z_1ne, z_lt1, z_1lt, z_ltT, z_ltF, z_leT, z_leF, z_eqF, z_b_0, z_b_1, ↓reduceIte, eq_self, not_true_eq_false, not_false_eq_true, and_true, true_and, and_false, false_and, Nat.add_zero, Nat.zero_add]
    · have k := M_isLine (n := (n.1 + 1, n.2 + 6)) (J := J) hS hP B.qL (s := s) (by omega) hl
      rw [z_b_f (fun q => h2 q.2)] at k
      exact k
  rw [z_b_t h2] at hh
  rcases z_in d 1 (by omega) with ⟨e, he, rfl⟩ | hd
  rotate_left
  · refine h_pairt.no ho (r2 := z_n 0) ?_ (M_known_no hS (Or.inr ⟨?_, hd⟩))
    · simp (disch := omega) only [f_Rs_known, o2, o4, p1, e1, obp, hh, C_out hd, or_true, true_or, or_false, false_or, z_b_T, z_b_F, Bool.false_eq_true, Classical.not_not, decide_eq_true_eq, z_sq, Option.bind_some, z_lits, z_n_add, z_n_mul, z_lt, z_le, z_eq, z_ne1, z_1ne, z_lt1, z_1lt, z_ltT, z_ltF, z_leT, z_leF, z_eqF, z_b_0, z_b_1, ↓reduceIte, eq_self, not_true_eq_false, not_false_eq_true, and_true, true_and, and_false, false_and, Nat.add_zero, Nat.zero_add]
    · have k := M_isLine (n := (n.1 + 1, n.2 + 6)) (J := J) hS hP B.qL (s := s) (by omega) hl
      rw [z_b_t ⟨h1, h2⟩] at k
      exact k
  obtain ⟨Y, a1, a2, a3, a4⟩ := C_refresh (n := n) B ho
  have hY := h_B B a2
  obtain ⟨k1, k2⟩ := a4.2.1 s l (by omega) h1 h2
  have mY : z_mf Y J (z_up Y 83 0 (z_n 0)) J := z_mf.up rfl
  have iL : ∀ m, f_Mo_isLine 83 (z_n s) (z_n l) (z_h S Y J P m) = some (z_n 1, z_h S Y J P m) := by
    intro m
    have k := M_isLine (n := m) (J := J) hS hP hY.1.qL (s := s) (by omega) hl
    rw [z_th_c hY.2, z_ln_c hY.2, z_b_t ⟨h1, h2⟩] at k
    exact k
  have kn := fun m => M_knows (n' := m) (Y := z_up Y 83 0 (z_n 0)) (JY := J) B hS hP (hY.2.trans mY.cg) (show s < 24 by omega) h1 h2
  have om := fun I J m => z_ob (I := I) (J := J) (P := P) (n := m) (s_83 hS)
  by_cases hc : h_kl I J s l 24 < h_kf I J s l 24
  · have hc' := eq_true hc
    obtain ⟨Z, b1, b2, b3, b0, b4, b5⟩ := kn (n.1 + 1, n.2 + 6)
    refine ⟨none, z_n 0, Y, (n.1 + 1, n.2 + 6), z_up Z 83 0 (z_n 1), ?_, a2, ⟨by omega, by simp, by simp⟩, a4.ok B a2 a3, ?_, (mY.trans b2).trans (z_mf.up rfl), z_up_s _ _ _ _⟩
    · simp (disch := omega) only [f_Rs_known, o1, o2, o3, o4, p1, e1, obp, hh, C_in, a1, z_Hor hS hP, k1, k2, hc', or_true, true_or, or_false, false_or, z_b_T, z_b_F, Bool.false_eq_true, Classical.not_not, decide_eq_true_eq, z_sq, Option.bind_some, z_lits, z_n_add, z_n_mul, z_lt, z_le, z_eq, z_ne1, z_1ne, z_lt1, z_1lt, z_ltT, z_ltF, z_leT, z_leF, z_eqF, z_b_0, z_b_1, ↓reduceIte, eq_self, not_true_eq_false, not_false_eq_true, and_true, true_and, and_false, false_and, Nat.add_zero, Nat.zero_add]
      rfl
    · simp (disch := omega) only [f_Mo_known, om, iL, M_win, M_thr hS, M_r0 hS, z_up_s, b1, z_Mr hS hP, b4, b5, hc', or_true, true_or, or_false, false_or, z_b_T, z_b_F, Bool.false_eq_true, Classical.not_not, decide_eq_true_eq, z_sq, Option.bind_some, z_lits, z_n_add, z_n_mul, z_lt, z_le, z_eq, z_ne1, z_1ne, z_lt1, z_1lt, z_ltT, z_ltF, z_leT, z_leF, z_eqF, z_b_0, z_b_1, ↓reduceIte, eq_self, not_true_eq_false, not_false_eq_true, and_true, true_and, and_false, false_and, Nat.add_zero, Nat.zero_add]
  · have hc' := eq_false hc
    obtain ⟨Z, b1, b2, b3, b0, b4, b5⟩ := kn n
    have f28 : z_up Z 83 0 (z_n 0) 83 28 = h_kf I J s l 24 := by rw [z_up_e, if_neg (by decide)]; exact b4
    have f29 : z_up Z 83 0 (z_n 0) 83 29 = h_kl I J s l 24 := by rw [z_up_e, if_neg (by decide)]; exact b5
    refine ⟨some (if e = 0 then h_kf I J s l 24 else h_kl I J s l 24), if e = 0 then h_kf I J s l 24 else h_kl I J s l 24, Y, n, z_up Z 83 0 (z_n 0), ?_, a2, ⟨by omega, by omega, by omega⟩, a4.ok B a2 a3, ?_, (mY.trans b2).trans (z_mf.up rfl), rfl, z_up_s _ _ _ _⟩
    · by_cases h : e = 0 <;> simp (disch := omega) only [f_Rs_known, o1, o2, o3, o4, p1, e1, obp, hh, C_in, a1, z_Hor hS hP, k1, k2, hc', h, or_true, true_or, or_false, false_or, z_b_T, z_b_F, Bool.false_eq_true, Classical.not_not, decide_eq_true_eq, z_sq, Option.bind_some, z_lits, z_n_add, z_n_mul, z_lt, z_le, z_eq, z_ne1, z_1ne, z_lt1, z_1lt, z_ltT, z_ltF, z_leT, z_leF, z_eqF, z_b_0, z_b_1, ↓reduceIte, eq_self, not_true_eq_false, not_false_eq_true, and_true, true_and, and_false, false_and, Nat.add_zero, Nat.zero_add]
    · by_cases h : e = 0 <;> simp (disch := omega) only [f_Mo_known, om, iL, M_win, M_thr hS, M_r0 hS, z_up_s, b1, z_Mr hS hP, b4, b5, f28, f29, hc', h, or_true, true_or, or_false, false_or, z_b_T, z_b_F, Bool.false_eq_true, Classical.not_not, decide_eq_true_eq, z_sq, Option.bind_some, z_lits, z_n_add, z_n_mul, z_lt, z_le, z_eq, z_ne1, z_1ne, z_lt1, z_1lt, z_ltT, z_ltF, z_leT, z_leF, z_eqF, z_b_0, z_b_1, ↓reduceIte, eq_self, not_true_eq_false, not_false_eq_true, and_true, true_and, and_false, false_and, Nat.add_zero, Nat.zero_add]
/-- a young line -/
def u_yg (I : z_MI) (w s l : Nat) : Nat := if I 91 (12 * s + l) = z_n w ∧ ¬ z_n 14 < I 92 (12 * s + l) then 1 else 0
def u_ys (I : z_MI) (w N : Nat) : Nat := z_sum N fun s => if z_th I s = true then z_sum (z_ln I s) (u_yg I w s) else 0
set_option maxRecDepth 100000 in
set_option maxHeartbeats 4000000 in
theorem C_young (B : z_B S I J P K n.1) {w : Nat} {d : Int32} (hw : w < 2) : f_Rs_young_L25 8 (z_n w) d q_FU (z_n 0) (z_n 0) (z_h S I J P n) = some (z_n (u_ys I w 24), z_h S I J P n) := by
  have hS := B.qS
  have hP := B.qP
  obtain ⟨o1, o2, o3, o4, o5⟩ := C_hob (n := n) hS hP
  have h := z_run (fun m s => f_Rs_young_L25 8 (z_n w) d m (z_n (u_ys I w s)) (z_n s) (z_h S I J P n)) 24 (r := some (z_n (u_ys I w 24), z_h S I J P n)) (by omega)
    (by
      intro m s hs
      have p1 := C_pageOf (I := I) (J := J) (n := n) hS hP hs
      have es : u_ys I w (s + 1) = u_ys I w s + if z_th I s = true then z_sum (z_ln I s) (u_yg I w s) else 0 := rfl
      rw [es]
      generalize u_ys I w s = N
      by_cases h1 : z_th I s = true
      · obtain ⟨p, e1, e2, e3⟩ := h_pg B (fun _ _ => rfl) hs h1
        have l12 : z_ln I s ≤ 12 := (B.qD hs).1
        have r1 := z_ps_r e2
        have sz : I p 0 = z_n (z_ln I s) := e3.1
        have k := z_run (fun m i => f_Rs_young_L46 8 (z_n w) d (z_n s) (some p) m (z_n (N + z_sum i (u_yg I w s))) (z_n i) (z_h S I J P n)) (z_ln I s) (r := some (z_n (N + z_sum (z_ln I s) (u_yg I w s)), z_h S I J P n)) (by omega)
          (by
            intro m i hi
            have se : I (p + 4) i = I 91 (12 * s + i) := e3.se hi
            have ag : I (p + 5) i = I 92 (12 * s + i) := e3.ag hi
            rw [z_sum_s]
            unfold u_yg
            rw [← Nat.add_assoc]
            have hw2 : w = 0 ∨ w = 1 := by omega
            rcases hw2 with rfl | rfl
            · rcases z_tf (I 91 (12 * s + i) = z_n 0) with c1 | c1 <;> rcases z_tf (z_n 14 < I 92 (12 * s + i)) with c2 | c2 <;> simp (disch := omega) only [f_Rs_young_L46, r1, sz, hi, se, ag, c1, c2, or_true, true_or, or_false, false_or, z_b_T, z_b_F, Bool.false_eq_true, Classical.not_not, decide_eq_true_eq, z_sq, Option.bind_some, z_lits, z_n_add, z_n_mul, z_lt, z_le, z_eq, z_ne1, z_1ne, z_lt1, z_1lt, z_ltT, z_ltF, z_leT, z_leF, z_eqF, z_b_0, z_b_1, ↓reduceIte, eq_self, not_true_eq_false, not_false_eq_true, and_true, true_and, and_false, false_and, Nat.add_zero, Nat.zero_add]
            · rcases z_tf (I 91 (12 * s + i) = z_n 1) with c1 | c1 <;> rcases z_tf (z_n 14 < I 92 (12 * s + i)) with c2 | c2 <;> simp (disch := omega) only [f_Rs_young_L46, r1, sz, hi, se, ag, c1, c2, or_true, true_or, or_false, false_or, z_b_T, z_b_F, Bool.false_eq_true, Classical.not_not, decide_eq_true_eq, z_sq, Option.bind_some, z_lits, z_n_add, z_n_mul, z_lt, z_le, z_eq, z_ne1, z_1ne, z_lt1, z_1lt, z_ltT, z_ltF, z_leT, z_leF, z_eqF, z_b_0, z_b_1, ↓reduceIte, eq_self, not_true_eq_false, not_false_eq_true, and_true, true_and, and_false, false_and, Nat.add_zero, Nat.zero_add])
          (by
            intro m
            simp (disch := omega) only [f_Rs_young_L46, r1, sz, Nat.lt_irrefl, or_true, true_or, or_false, false_or, z_b_T, z_b_F, Bool.false_eq_true, Classical.not_not, decide_eq_true_eq, z_sq, Option.bind_some, z_lits, z_n_add, z_n_mul, z_lt, z_le, z_eq, z_ne1, z_1ne, z_lt1, z_1lt, z_ltT, z_ltF, z_leT, z_leF, z_eqF, z_b_0, z_b_1, ↓reduceIte, eq_self, not_true_eq_false, not_false_eq_true, and_true, true_and, and_false, false_and, Nat.add_zero, Nat.zero_add])
        simp only [z_sum_0, Nat.add_zero] at k
        rw [if_pos h1]
        simp (disch := omega) only [f_Rs_young_L25, hs, o2, o4, p1, e1, k, or_true, true_or, or_false, false_or, z_b_T, z_b_F, Bool.false_eq_true, Classical.not_not, decide_eq_true_eq, z_sq, Option.bind_some, z_lits, z_n_add, z_n_mul, z_lt, z_le, z_eq, z_ne1, z_1ne, z_lt1, z_1lt, z_ltT, z_ltF, z_leT, z_leF, z_eqF, z_b_0, z_b_1, ↓reduceIte, eq_self, not_true_eq_false, not_false_eq_true, and_true, true_and, and_false, false_and, Nat.add_zero, Nat.zero_add]
      · have e0 := h_pn B hs h1
        have k : f_Rs_young_L46 8 (z_n w) d (z_n s) none q_FU (z_n N) (z_n 0) (z_h S I J P n) = some (z_n N, z_h S I J P n) := rfl
        rw [if_neg h1]
        simp (disch := omega) only [f_Rs_young_L25, hs, o2, o4, p1, e0, k, or_true, true_or, or_false, false_or, z_b_T, z_b_F, Bool.false_eq_true, Classical.not_not, decide_eq_true_eq, z_sq, Option.bind_some, z_lits, z_n_add, z_n_mul, z_lt, z_le, z_eq, z_ne1, z_1ne, z_lt1, z_1lt, z_ltT, z_ltF, z_leT, z_leF, z_eqF, z_b_0, z_b_1, ↓reduceIte, eq_self, not_true_eq_false, not_false_eq_true, and_true, true_and, and_false, false_and, Nat.add_zero, Nat.zero_add])
    (by
      intro m
      simp (disch := omega) only [f_Rs_young_L25, Nat.lt_irrefl, or_true, true_or, or_false, false_or, z_b_T, z_b_F, Bool.false_eq_true, Classical.not_not, decide_eq_true_eq, z_sq, Option.bind_some, z_lits, z_n_add, z_n_mul, z_lt, z_le, z_eq, z_ne1, z_1ne, z_lt1, z_1lt, z_ltT, z_ltF, z_leT, z_leF, z_eqF, z_b_0, z_b_1, ↓reduceIte, eq_self, not_true_eq_false, not_false_eq_true, and_true, true_and, and_false, false_and, Nat.add_zero, Nat.zero_add])
  exact h
set_option maxRecDepth 100000 in
set_option maxHeartbeats 4000000 in
theorem M_young (B : z_B S I J P K n.1) {Y : z_MI} (c : z_cg I J Y J) {w : Nat} {d : Int32} (hw : w < 2) : f_Mo_young_L30 83 (z_n w) d q_FU (z_n 0) (z_n 0) (z_h S Y J P n) = some (z_n (u_ys I w 24), z_h S Y J P n) := by
  have hS := B.qS
  have hP := B.qP
  have om := fun I J => z_ob (I := I) (J := J) (P := P) (n := n) (s_83 hS)
  have h := z_run (fun m s => f_Mo_young_L30 83 (z_n w) d m (z_n (u_ys I w s)) (z_n s) (z_h S Y J P n)) 24 (r := some (z_n (u_ys I w 24), z_h S Y J P n)) (by omega)
    (by
      intro m s hs
      have th := M_isThere (n := n) (I := Y) (J := J) hS hP hs
      rw [z_th_c c] at th
      have es : u_ys I w (s + 1) = u_ys I w s + if z_th I s = true then z_sum (z_ln I s) (u_yg I w s) else 0 := rfl
      rw [es]
      generalize u_ys I w s = N
      by_cases h1 : z_th I s = true
      · rw [z_b_t h1] at th
        have l12 : z_ln I s ≤ 12 := (B.qD hs).1
        have hL : Y 90 s = z_n (z_ln I s) := by rw [c.i 90 rfl]; exact (B.qL s (by omega)).1
        have k := z_run (fun m i => f_Mo_young_L44 83 (z_n w) d (z_n s) m (z_n (N + z_sum i (u_yg I w s))) (z_n (12 * s + i)) (z_h S Y J P n)) (z_ln I s) (r := some (z_n (N + z_sum (z_ln I s) (u_yg I w s)), z_h S Y J P n)) (by omega)
          (by
            intro m i hi
            have se : Y 91 (12 * s + i) = I 91 (12 * s + i) := c.i 91 rfl _
            have ag : Y 92 (12 * s + i) = I 92 (12 * s + i) := c.i 92 rfl _
            rw [z_sum_s]
            unfold u_yg
            rw [← Nat.add_assoc]
            rcases z_tf (I 91 (12 * s + i) = z_n w) with c1 | c1 <;> rcases z_tf (z_n 14 < I 92 (12 * s + i)) with c2 | c2 <;> simp (disch := omega) only [f_Mo_young_L44, om, th, z_Mr hS hP, hL, hi, se, ag, c1, c2, Nat.add_lt_add_iff_left, Nat.add_assoc, or_true, true_or, or_false, false_or, z_b_T, z_b_F, Bool.false_eq_true, Classical.not_not, decide_eq_true_eq, z_sq, Option.bind_some, z_lits, z_n_add, z_n_mul, z_lt, z_le, z_eq, z_ne1, z_1ne, z_lt1, z_1lt, z_ltT, z_ltF, z_leT, z_leF, z_eqF, z_b_0, z_b_1, ↓reduceIte, eq_self, not_true_eq_false, not_false_eq_true, and_true, true_and, and_false, false_and, Nat.add_zero, Nat.zero_add])
          (by
            intro m
            simp (disch := omega) only [f_Mo_young_L44, om, th, z_Mr hS hP, hL, Nat.lt_irrefl, or_true, true_or, or_false, false_or, z_b_T, z_b_F, Bool.false_eq_true, Classical.not_not, decide_eq_true_eq, z_sq, Option.bind_some, z_lits, z_n_add, z_n_mul, z_lt, z_le, z_eq, z_ne1, z_1ne, z_lt1, z_1lt, z_ltT, z_ltF, z_leT, z_leF, z_eqF, z_b_0, z_b_1, ↓reduceIte, eq_self, not_true_eq_false, not_false_eq_true, and_true, true_and, and_false, false_and, Nat.add_zero, Nat.zero_add])
        simp only [z_sum_0, Nat.add_zero] at k
        rw [if_pos h1]
        simp (disch := omega) only [f_Mo_young_L30, hs, k, or_true, true_or, or_false, false_or, z_b_T, z_b_F, Bool.false_eq_true, Classical.not_not, decide_eq_true_eq, z_sq, Option.bind_some, z_lits, z_n_add, z_n_mul, z_lt, z_le, z_eq, z_ne1, z_1ne, z_lt1, z_1lt, z_ltT, z_ltF, z_leT, z_leF, z_eqF, z_b_0, z_b_1, ↓reduceIte, eq_self, not_true_eq_false, not_false_eq_true, and_true, true_and, and_false, false_and, Nat.add_zero, Nat.zero_add]
      · rw [z_b_f h1] at th
        have k : ∀ m, f_Mo_young_L44 83 (z_n w) d (z_n s) (m + 1) (z_n N) (z_n (12 * s)) (z_h S Y J P n) = some (z_n N, z_h S Y J P n) := by
          intro m
          simp (disch := omega) only [f_Mo_young_L44, om, th, or_true, true_or, or_false, false_or, z_b_T, z_b_F, Bool.false_eq_true, Classical.not_not, decide_eq_true_eq, z_sq, Option.bind_some, z_lits, z_n_add, z_n_mul, z_lt, z_le, z_eq, z_ne1, z_1ne, z_lt1, z_1lt, z_ltT, z_ltF, z_leT, z_leF, z_eqF, z_b_0, z_b_1, ↓reduceIte, eq_self, not_true_eq_false, not_false_eq_true, and_true, true_and, and_false, false_and, Nat.add_zero, Nat.zero_add]
        have k := k 999999
        change f_Mo_young_L44 83 (z_n w) d (z_n s) q_FU (z_n N) (z_n (12 * s)) (z_h S Y J P n) = _ at k
        rw [if_neg h1]
        simp (disch := omega) only [f_Mo_young_L30, hs, k, or_true, true_or, or_false, false_or, z_b_T, z_b_F, Bool.false_eq_true, Classical.not_not, decide_eq_true_eq, z_sq, Option.bind_some, z_lits, z_n_add, z_n_mul, z_lt, z_le, z_eq, z_ne1, z_1ne, z_lt1, z_1lt, z_ltT, z_ltF, z_leT, z_leF, z_eqF, z_b_0, z_b_1, ↓reduceIte, eq_self, not_true_eq_false, not_false_eq_true, and_true, true_and, and_false, false_and, Nat.add_zero, Nat.zero_add])
    (by
      intro m
      simp (disch := omega) only [f_Mo_young_L30, Nat.lt_irrefl, or_true, true_or, or_false, false_or, z_b_T, z_b_F, Bool.false_eq_true, Classical.not_not, decide_eq_true_eq, z_sq, Option.bind_some, z_lits, z_n_add, z_n_mul, z_lt, z_le, z_eq, z_ne1, z_1ne, z_lt1, z_1lt, z_ltT, z_ltF, z_leT, z_leF, z_eqF, z_b_0, z_b_1, ↓reduceIte, eq_self, not_true_eq_false, not_false_eq_true, and_true, true_and, and_false, false_and, Nat.add_zero, Nat.zero_add])
  exact h
set_option maxRecDepth 100000 in
set_option maxHeartbeats 4000000 in
theorem X_young (B : z_B S I J P K n.1) (ho : h_ok I J) (a b : Int32) : h_pair (f_Rs_young 8 a b) (f_Mo_young 83 a b) S I J P n := by
  have hS := B.qS
  have hP := B.qP
  have m : z_mf I J (z_up I 83 0 (z_n 0)) J := z_mf.up rfl
  have c := m.cg
  obtain ⟨o1, o2, o3, o4, o5⟩ := C_hob (n := n) hS hP
  have om := fun I J => z_ob (I := I) (J := J) (P := P) (n := n) (s_83 hS)
  rcases z_in a 1 (by omega) with ⟨w, hw, rfl⟩ | ha
  rotate_left
  · refine h_pair.same ho (r := -z_n 1) ?_ ?_ m
    · simp (disch := omega) only [f_Rs_young, C_out ha, or_true, true_or, or_false, false_or, z_b_T, z_b_F, Bool.false_eq_true, Classical.not_not, decide_eq_true_eq, z_sq, Option.bind_some, z_lits, z_n_add, z_n_mul, z_lt, z_le, z_eq, z_ne1, z_1ne, z_lt1, z_1lt, z_ltT, z_ltF, z_leT, z_leF, z_eqF, z_b_0, z_b_1, ↓reduceIte, eq_self, not_true_eq_false, not_false_eq_true, and_true, true_and, and_false, false_and, Nat.add_zero, Nat.zero_add]
    · simp (disch := omega) only [f_Mo_young, M_thr hS, M_wout ha, or_true, true_or, or_false, false_or, z_b_T, z_b_F, Bool.false_eq_true, Classical.not_not, decide_eq_true_eq, z_sq, Option.bind_some, z_lits, z_n_add, z_n_mul, z_lt, z_le, z_eq, z_ne1, z_1ne, z_lt1, z_1lt, z_ltT, z_ltF, z_leT, z_leF, z_eqF, z_b_0, z_b_1, ↓reduceIte, eq_self, not_true_eq_false, not_false_eq_true, and_true, true_and, and_false, false_and, Nat.add_zero, Nat.zero_add]
  rcases z_in b 2 (by omega) with ⟨e, he, rfl⟩ | hb
  rotate_left
  · refine h_pair.same ho (r := -z_n 1) ?_ ?_ m
    · simp (disch := omega) only [f_Rs_young, C_in hw, C_out hb, or_true, true_or, or_false, false_or, z_b_T, z_b_F, Bool.false_eq_true, Classical.not_not, decide_eq_true_eq, z_sq, Option.bind_some, z_lits, z_n_add, z_n_mul, z_lt, z_le, z_eq, z_ne1, z_1ne, z_lt1, z_1lt, z_ltT, z_ltF, z_leT, z_leF, z_eqF, z_b_0, z_b_1, ↓reduceIte, eq_self, not_true_eq_false, not_false_eq_true, and_true, true_and, and_false, false_and, Nat.add_zero, Nat.zero_add]
    · simp (disch := omega) only [f_Mo_young, M_thr hS, M_win hw, M_wout hb, or_true, true_or, or_false, false_or, z_b_T, z_b_F, Bool.false_eq_true, Classical.not_not, decide_eq_true_eq, z_sq, Option.bind_some, z_lits, z_n_add, z_n_mul, z_lt, z_le, z_eq, z_ne1, z_1ne, z_lt1, z_1lt, z_ltT, z_ltF, z_leT, z_leF, z_eqF, z_b_0, z_b_1, ↓reduceIte, eq_self, not_true_eq_false, not_false_eq_true, and_true, true_and, and_false, false_and, Nat.add_zero, Nat.zero_add]
  have y1 := C_young (n := n) B (w := w) (d := z_n e) (by omega)
  by_cases e0 : e = 0
  · subst e0
    have y2 := M_young (n := n) B c (w := w) (d := z_n 0) (by omega)
    refine h_pair.same ho (r := z_n (u_ys I w 24)) ?_ ?_ m
    · simp (disch := omega) only [f_Rs_young, C_in, y1, or_true, true_or, or_false, false_or, z_b_T, z_b_F, Bool.false_eq_true, Classical.not_not, decide_eq_true_eq, z_sq, Option.bind_some, z_lits, z_n_add, z_n_mul, z_lt, z_le, z_eq, z_ne1, z_1ne, z_lt1, z_1lt, z_ltT, z_ltF, z_leT, z_leF, z_eqF, z_b_0, z_b_1, ↓reduceIte, eq_self, not_true_eq_false, not_false_eq_true, and_true, true_and, and_false, false_and, Nat.add_zero, Nat.zero_add]
    · simp (disch := omega) only [f_Mo_young, M_thr hS, M_win, y2, or_true, true_or, or_false, false_or, z_b_T, z_b_F, Bool.false_eq_true, Classical.not_not, decide_eq_true_eq, z_sq, Option.bind_some, z_lits, z_n_add, z_n_mul, z_lt, z_le, z_eq, z_ne1, z_1ne, z_lt1, z_1lt, z_ltT, z_ltF, z_leT, z_leF, z_eqF, z_b_0, z_b_1, ↓reduceIte, eq_self, not_true_eq_false, not_false_eq_true, and_true, true_and, and_false, false_and, Nat.add_zero, Nat.zero_add]
  obtain ⟨Y, a1, a2, a3⟩ := C_leftOfAll (n := n) B ho (w := w) (x := 0) (by omega) (by omega)
  have hY := h_B B a2
  by_cases e1 : e = 1
  · subst e1
    have mY : z_mf Y J (z_up Y 83 0 (z_n 0)) J := z_mf.up rfl
    have y2 := M_young (n := n) B (hY.2.trans mY.cg) (w := w) (d := z_n 1) (by omega)
    obtain ⟨Z, b1, b2, b3⟩ := M_leftAll (Y := z_up Y 83 0 (z_n 0)) (JY := J) (n' := n) B hS hP (hY.2.trans mY.cg) (w := w) (x := 0) (by omega) (by omega)
    refine ⟨z_n (u_ys I w 24 + h_la I J w 0 24), Y, Z, ?_, a2, a3, ?_, mY.trans b2⟩
    · simp (disch := omega) only [f_Rs_young, C_in, y1, o5, a1, or_true, true_or, or_false, false_or, z_b_T, z_b_F, Bool.false_eq_true, Classical.not_not, decide_eq_true_eq, z_sq, Option.bind_some, z_lits, z_n_add, z_n_mul, z_lt, z_le, z_eq, z_ne1, z_1ne, z_lt1, z_1lt, z_ltT, z_ltF, z_leT, z_leF, z_eqF, z_b_0, z_b_1, ↓reduceIte, eq_self, not_true_eq_false, not_false_eq_true, and_true, true_and, and_false, false_and, Nat.add_zero, Nat.zero_add]
    · simp (disch := omega) only [f_Mo_young, M_thr hS, M_win, y2, om, b1, or_true, true_or, or_false, false_or, z_b_T, z_b_F, Bool.false_eq_true, Classical.not_not, decide_eq_true_eq, z_sq, Option.bind_some, z_lits, z_n_add, z_n_mul, z_lt, z_le, z_eq, z_ne1, z_1ne, z_lt1, z_1lt, z_ltT, z_ltF, z_leT, z_leF, z_eqF, z_b_0, z_b_1, ↓reduceIte, eq_self, not_true_eq_false, not_false_eq_true, and_true, true_and, and_false, false_and, Nat.add_zero, Nat.zero_add]
  · have e2 : e = 2 := by omega
    subst e2
    obtain ⟨Y2, d1, d2, d3⟩ := C_leftOfAll (n := n) hY.1 a3 (w := w) (x := 1) (by omega) (by omega)
    have d4 : ∀ a, (a < 22 ∨ 26 < a) → Y2 a = I a := fun a ha => (d2 a ha).trans (a2 a ha)
    have hY2 := h_B B d4
    have el : h_la Y J w 1 24 = h_la I J w 1 24 := by
      unfold h_la
      refine z_sum_eq fun s _ => z_sum_eq fun t _ => ?_
      rw [h_rc_c hY.2, h_lt_c hY.2]
    rw [el] at d1
    have mY : z_mf Y2 J (z_up Y2 83 0 (z_n 0)) J := z_mf.up rfl
    have y2 := M_young (n := n) B (hY2.2.trans mY.cg) (w := w) (d := z_n 2) (by omega)
    obtain ⟨Z, b1, b2, b3⟩ := M_leftAll (Y := z_up Y2 83 0 (z_n 0)) (JY := J) (n' := n) B hS hP (hY2.2.trans mY.cg) (w := w) (x := 0) (by omega) (by omega)
    obtain ⟨Z2, g1, g2, g3⟩ := M_leftAll (Y := Z) (JY := J) (n' := n) B hS hP ((hY2.2.trans mY.cg).trans b2.cg) (w := w) (x := 1) (by omega) (by omega)
    refine ⟨z_n (u_ys I w 24 + h_la I J w 0 24 + h_la I J w 1 24), Y2, Z2, ?_, d4, d3, ?_, (mY.trans b2).trans g2⟩
    · simp (disch := omega) only [f_Rs_young, C_in, y1, o5, a1, d1, or_true, true_or, or_false, false_or, z_b_T, z_b_F, Bool.false_eq_true, Classical.not_not, decide_eq_true_eq, z_sq, Option.bind_some, z_lits, z_n_add, z_n_mul, z_lt, z_le, z_eq, z_ne1, z_1ne, z_lt1, z_1lt, z_ltT, z_ltF, z_leT, z_leF, z_eqF, z_b_0, z_b_1, ↓reduceIte, eq_self, not_true_eq_false, not_false_eq_true, and_true, true_and, and_false, false_and, Nat.add_zero, Nat.zero_add]
    · simp (disch := omega) only [f_Mo_young, M_thr hS, M_win, y2, om, b1, g1, or_true, true_or, or_false, false_or, z_b_T, z_b_F, Bool.false_eq_true, Classical.not_not, decide_eq_true_eq, z_sq, Option.bind_some, z_lits, z_n_add, z_n_mul, z_lt, z_le, z_eq, z_ne1, z_1ne, z_lt1, z_1lt, z_ltT, z_ltF, z_leT, z_leF, z_eqF, z_b_0, z_b_1, ↓reduceIte, eq_self, not_true_eq_false, not_false_eq_true, and_true, true_and, and_false, false_and, Nat.add_zero, Nat.zero_add]
end
