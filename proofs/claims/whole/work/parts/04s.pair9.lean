/-! heaping. -/
section
variable {S : z_SH} {I : z_MI} {J : z_MJ} {P : z_MP} {K : Nat → Bool} {n : Nat × Nat}
def u_ha (I : z_MI) (s l : Nat) : Nat := if ¬ I 92 (12 * s + l) < z_n 10 ∧ ¬ z_n 69 < I 92 (12 * s + l) then 1 else 0
def u_hf (I : z_MI) (s l : Nat) : Nat := if (¬ I 92 (12 * s + l) < z_n 10 ∧ ¬ z_n 69 < I 92 (12 * s + l)) ∧ I 92 (12 * s + l) - I 92 (12 * s + l) / z_n 5 * z_n 5 = z_n 0 then 1 else 0
def u_hs (f : Nat → Nat → Nat) (I : z_MI) (a b : Int32) (s : Nat) : Nat := if z_ii I s a b = true then z_sum (z_ln I s) (f s) else 0
theorem u_hs_le {I : z_MI} (hL : z_lL I) {f : Nat → Nat → Nat} (hf : ∀ s l, f s l ≤ 1) (a b : Int32) : z_sum 24 (u_hs f I a b) ≤ 288 := by
  refine z_sum_le _ 12 24 (fun s hs => ?_)
  unfold u_hs
  have := z_sum_le (f s) 1 (z_ln I s) (fun i _ => hf s i)
  have := (hL s (by omega)).2
  split <;> omega
theorem u_ha_le (I : z_MI) (s l : Nat) : u_ha I s l ≤ 1 := by unfold u_ha; split <;> omega
theorem u_hf_le (I : z_MI) (s l : Nat) : u_hf I s l ≤ 1 := by unfold u_hf; split <;> omega
theorem z_pg.age {p m s : Nat} (h : z_pg S I J P K m p (z_Ds I J s)) {l : Nat} (hl : l < z_ln I s) : I (p + 5) l = I 92 (12 * s + l) := (h.2.2.1.2.2 l hl).2.1
theorem z_pg.size {p m s : Nat} (h : z_pg S I J P K m p (z_Ds I J s)) : I p 0 = z_n (z_ln I s) := h.2.2.1.1
set_option maxRecDepth 100000 in
set_option maxHeartbeats 4000000 in
theorem C_heapL (B : z_B S I J P K n.1) {s p x y : Nat} {a b d v6 : Int32} (hs : s < 24) (h : z_pg S I J P K n.1 p (z_Ds I J s)) : f_Rs_heaping_L42 8 a b d v6 (some p) q_FU (z_n x) (z_n y) (z_n 0) (z_h S I J P n) = some ((z_n (x + z_sum (z_ln I s) (u_hf I s)), z_n (y + z_sum (z_ln I s) (u_ha I s))), z_h S I J P n) := by
  have h12 := (B.qL s (by omega)).2
  have r3 := z_ps_r h.2.1
  have sz := h.size
  have e := z_run (fun m i => f_Rs_heaping_L42 8 a b d v6 (some p) m (z_n (x + z_sum i (u_hf I s))) (z_n (y + z_sum i (u_ha I s))) (z_n i) (z_h S I J P n)) (z_ln I s) (r := some ((z_n (x + z_sum (z_ln I s) (u_hf I s)), z_n (y + z_sum (z_ln I s) (u_ha I s))), z_h S I J P n)) (by omega)
    (by
      intro m i hi
      have ag := h.age hi
      simp (disch := omega) only [f_Rs_heaping_L42, r3, sz, ag, C_isFrom, z_sum_s, Nat.add_assoc, or_true, true_or, or_false, false_or, z_b_T, z_b_F, Bool.false_eq_true, Classical.not_not, decide_eq_true_eq, z_sq, Option.bind_some, z_lits, z_n_add, z_n_mul, z_lt, z_le, z_eq, z_ne1, z_1ne, z_lt1, z_1lt, z_ltT, z_ltF, z_leT, z_leF, z_eqF, z_b_0, z_b_1, ↓reduceIte, eq_self, not_true_eq_false, not_false_eq_true, and_true, true_and, and_false, false_and, Nat.add_zero, Nat.zero_add]
      unfold u_ha u_hf
      rcases z_tf (I 92 (12 * s + i) < z_n 10) with h1 | h1 <;> rcases z_tf (z_n 69 < I 92 (12 * s + i)) with h2 | h2 <;> rcases z_tf (I 92 (12 * s + i) - I 92 (12 * s + i) / z_n 5 * z_n 5 = z_n 0) with h3 | h3 <;> simp (disch := omega) only [h1, h2, h3, or_true, true_or, or_false, false_or, z_b_T, z_b_F, Bool.false_eq_true, Classical.not_not, decide_eq_true_eq, z_sq, Option.bind_some, z_lits, z_n_add, z_n_mul, z_lt, z_le, z_eq, z_ne1, z_1ne, z_lt1, z_1lt, z_ltT, z_ltF, z_leT, z_leF, z_eqF, z_b_0, z_b_1, ↓reduceIte, eq_self, not_true_eq_false, not_false_eq_true, and_true, true_and, and_false, false_and, Nat.add_zero, Nat.zero_add])
    (by
      intro m
      simp (disch := omega) only [f_Rs_heaping_L42, r3, sz, or_true, true_or, or_false, false_or, z_b_T, z_b_F, Bool.false_eq_true, Classical.not_not, decide_eq_true_eq, z_sq, Option.bind_some, z_lits, z_n_add, z_n_mul, z_lt, z_le, z_eq, z_ne1, z_1ne, z_lt1, z_1lt, z_ltT, z_ltF, z_leT, z_leF, z_eqF, z_b_0, z_b_1, ↓reduceIte, eq_self, not_true_eq_false, not_false_eq_true, and_true, true_and, and_false, false_and, Nat.add_zero, Nat.zero_add])
  simp only [z_sum_0, Nat.add_zero] at e
  exact e
set_option maxRecDepth 100000 in
set_option maxHeartbeats 4000000 in
theorem M_heapL (hS : z_St S) (hP : z_Pt P) (hL : z_lL I) {s x y : Nat} {a b d : Int32} (hs : s < 24) : f_Mo_heaping_L62 83 a b d (z_n s) q_FU (z_n x) (z_n y) (z_n (12 * s)) (z_h S I J P n) = some ((z_n (x + 5 * z_sum (z_ln I s) (u_hf I s)), z_n (y + z_sum (z_ln I s) (u_ha I s))), z_h S I J P n) := by
  have h12 := (hL s (by omega)).2
  have e := z_run (fun m i => f_Mo_heaping_L62 83 a b d (z_n s) m (z_n (x + 5 * z_sum i (u_hf I s))) (z_n (y + z_sum i (u_ha I s))) (z_n (12 * s + i)) (z_h S I J P n)) (z_ln I s) (r := some ((z_n (x + 5 * z_sum (z_ln I s) (u_hf I s)), z_n (y + z_sum (z_ln I s) (u_ha I s))), z_h S I J P n)) (by omega)
    (by
      intro m i hi
      simp (disch := omega) only [f_Mo_heaping_L62, (hL s (by omega)).1, M_within, z_sum_s, Nat.mul_add, Nat.add_assoc, z_Mr hS hP, or_true, true_or, or_false, false_or, z_b_T, z_b_F, Bool.false_eq_true, Classical.not_not, decide_eq_true_eq, z_sq, Option.bind_some, z_lits, z_n_add, z_n_mul, z_lt, z_le, z_eq, z_ne1, z_1ne, z_lt1, z_1lt, z_ltT, z_ltF, z_leT, z_leF, z_eqF, z_b_0, z_b_1, ↓reduceIte, eq_self, not_true_eq_false, not_false_eq_true, and_true, true_and, and_false, false_and, Nat.add_zero, Nat.zero_add]
      unfold u_ha u_hf
      rcases z_tf (I 92 (12 * s + i) < z_n 10) with h1 | h1 <;> rcases z_tf (z_n 69 < I 92 (12 * s + i)) with h2 | h2 <;> rcases z_tf (I 92 (12 * s + i) - I 92 (12 * s + i) / z_n 5 * z_n 5 = z_n 0) with h3 | h3 <;> simp (disch := omega) only [h1, h2, h3, Nat.mul_one, Nat.mul_zero, or_true, true_or, or_false, false_or, z_b_T, z_b_F, Bool.false_eq_true, Classical.not_not, decide_eq_true_eq, z_sq, Option.bind_some, z_lits, z_n_add, z_n_mul, z_lt, z_le, z_eq, z_ne1, z_1ne, z_lt1, z_1lt, z_ltT, z_ltF, z_leT, z_leF, z_eqF, z_b_0, z_b_1, ↓reduceIte, eq_self, not_true_eq_false, not_false_eq_true, and_true, true_and, and_false, false_and, Nat.add_zero, Nat.zero_add])
    (by
      intro m
      simp (disch := omega) only [f_Mo_heaping_L62, (hL s (by omega)).1, z_Mr hS hP, or_true, true_or, or_false, false_or, z_b_T, z_b_F, Bool.false_eq_true, Classical.not_not, decide_eq_true_eq, z_sq, Option.bind_some, z_lits, z_n_add, z_n_mul, z_lt, z_le, z_eq, z_ne1, z_1ne, z_lt1, z_1lt, z_ltT, z_ltF, z_leT, z_leF, z_eqF, z_b_0, z_b_1, ↓reduceIte, eq_self, not_true_eq_false, not_false_eq_true, and_true, true_and, and_false, false_and, Nat.add_zero, Nat.zero_add])
  simp only [z_sum_0, Nat.add_zero, Nat.mul_zero] at e
  exact e
set_option maxRecDepth 100000 in
set_option maxHeartbeats 4000000 in
theorem X_heaping (B : z_B S I J P K n.1) (a b d : Int32) : z_pr (f_Rs_heaping 8 a b d) (f_Mo_heaping 83 a b d) S I J P K n := by
  have hS := B.qS
  have hP := B.qP
  have hn := B.qn
  have m : z_mf I J (z_up I 83 0 (z_n 0)) J := z_mf.up rfl
  by_cases hs : z_sc a b = true
  · have e8 : q_gr (q_gf (z_h S I J P n) 0 8 3) = some 13 := z_gr (s_8 hS) rfl (p_8_3 hP)
    have hc := z_run (fun m i => f_Rs_heaping_L19 8 a b d m (z_n (z_sum i (u_hs (u_hf I) I a b))) (z_n (z_sum i (u_hs (u_ha I) I a b))) (z_n i) (z_h S I J P n)) 24 (r := some ((z_n (z_sum 24 (u_hs (u_hf I) I a b)), z_n (z_sum 24 (u_hs (u_ha I) I a b))), z_h S I J P n)) (by omega)
      (by
        intro m i hi
        have pw := C_pageWithin B (b := b) hi (z_sc_cases hs)
        by_cases hii : z_ii I i a b = true
        · rcases B.pg hi with ⟨h5, h6⟩ | ⟨h5, p, h6, h7⟩
          · unfold z_ii at hii
            rw [h5] at hii
            simp at hii
          · have hl := fun x y => C_heapL (x := x) (y := y) (a := a) (b := b) (d := d) (v6 := z_n i) B hi h7
            have w1 : u_hs (u_hf I) I a b i = z_sum (z_ln I i) (u_hf I i) := if_pos hii
            have w2 : u_hs (u_ha I) I a b i = z_sum (z_ln I i) (u_ha I i) := if_pos hii
            simp (disch := omega) only [f_Rs_heaping_L19, e8, z_ob (s_13 hS), pw, hii, h6, hl, z_sum_s, w1, w2, or_true, true_or, or_false, false_or, z_b_T, z_b_F, Bool.false_eq_true, Classical.not_not, decide_eq_true_eq, z_sq, Option.bind_some, z_lits, z_n_add, z_n_mul, z_lt, z_le, z_eq, z_ne1, z_1ne, z_lt1, z_1lt, z_ltT, z_ltF, z_leT, z_leF, z_eqF, z_b_0, z_b_1, ↓reduceIte, eq_self, not_true_eq_false, not_false_eq_true, and_true, true_and, and_false, false_and, Nat.add_zero, Nat.zero_add]
        · have w1 : u_hs (u_hf I) I a b i = 0 := if_neg hii
          have w2 : u_hs (u_ha I) I a b i = 0 := if_neg hii
          have hl : ∀ x y, f_Rs_heaping_L42 8 a b d (z_n i) none q_FU x y (z_n 0) (z_h S I J P n) = some ((x, y), z_h S I J P n) := by
            intro x y
            rw [z_FU]
            rfl
          simp (disch := omega) only [f_Rs_heaping_L19, e8, z_ob (s_13 hS), pw, hii, hl, z_sum_s, w1, w2, or_true, true_or, or_false, false_or, z_b_T, z_b_F, Bool.false_eq_true, Classical.not_not, decide_eq_true_eq, z_sq, Option.bind_some, z_lits, z_n_add, z_n_mul, z_lt, z_le, z_eq, z_ne1, z_1ne, z_lt1, z_1lt, z_ltT, z_ltF, z_leT, z_leF, z_eqF, z_b_0, z_b_1, ↓reduceIte, eq_self, not_true_eq_false, not_false_eq_true, and_true, true_and, and_false, false_and, Nat.add_zero, Nat.zero_add])
      (by
        intro m
        simp (disch := omega) only [f_Rs_heaping_L19, or_true, true_or, or_false, false_or, z_b_T, z_b_F, Bool.false_eq_true, Classical.not_not, decide_eq_true_eq, z_sq, Option.bind_some, z_lits, z_n_add, z_n_mul, z_lt, z_le, z_eq, z_ne1, z_1ne, z_lt1, z_1lt, z_ltT, z_ltF, z_leT, z_leF, z_eqF, z_b_0, z_b_1, ↓reduceIte, eq_self, not_true_eq_false, not_false_eq_true, and_true, true_and, and_false, false_and, Nat.add_zero, Nat.zero_add])
    simp only [z_sum_0] at hc
    have b1 := u_hs_le B.qL (u_hf_le I) a b
    have b2 := u_hs_le B.qL (u_ha_le I) a b
    generalize hF : z_sum 24 (u_hs (u_hf I) I a b) = F at *
    generalize hA : z_sum 24 (u_hs (u_ha I) I a b) = A at *
    obtain ⟨r, S2, I2, J2, P2, n2, k1, k2, k3, k4⟩ := C_ratio (S := S) (I := I) (J := J) (P := P) (n := n) (A := (5 * F : Nat)) (b := A) (what := d) (by omega) (by omega) (by omega)
    have m' : z_mf I2 J2 (z_up I2 83 0 (z_n 0)) J2 := z_mf.up rfl
    have cg2 := (k3.cg (K := K) z_keep0 B.2.2.1.2 hn).trans m'.cg
    have hS2 := hS.mono k3 hn
    have hP2 := hP.mono k3 hn
    refine ⟨z_fr (5 * F : Nat) A d, S2, I2, J2, P2, n2, _, _, ?_, ?_, k3.x0, ⟨by omega, by omega, by omega⟩, m'⟩
    · simp (disch := omega) only [f_Rs_heaping, C_isScope, hs, hc, z_cast, k1, k2, or_true, true_or, or_false, false_or, z_b_T, z_b_F, Bool.false_eq_true, Classical.not_not, decide_eq_true_eq, z_sq, Option.bind_some, z_lits, z_n_add, z_n_mul, z_lt, z_le, z_eq, z_ne1, z_1ne, z_lt1, z_1lt, z_ltT, z_ltF, z_leT, z_leF, z_eqF, z_b_0, z_b_1, ↓reduceIte, eq_self, not_true_eq_false, not_false_eq_true, and_true, true_and, and_false, false_and, Nat.add_zero, Nat.zero_add]
    · rcases z_d1 (d := d) with hd | hd
      · have hL2 := z_lL_c cg2 B.qL
        have hV2 := z_lV_c cg2 B.qV
        have hm := z_run (fun m i => f_Mo_heaping_L34 83 a b d m (z_n (5 * z_sum i (u_hs (u_hf I) I a b))) (z_n (z_sum i (u_hs (u_ha I) I a b))) (z_n i) (z_h S2 (z_up I2 83 0 (z_n 0)) J2 P2 n2)) 24 (r := some ((z_n (5 * F), z_n A), z_h S2 (z_up I2 83 0 (z_n 0)) J2 P2 n2)) (by omega)
          (by
            intro m i hi
            have ii := M_isIn (n := n2) (J := J2) (a := a) (b := b) hS2 hP2 hV2 hi
            rw [z_ii_c cg2] at ii
            have f1 : u_hf (z_up I2 83 0 (z_n 0)) i = u_hf I i := by funext l; unfold u_hf; rw [cg2.i _ rfl]
            have f2 : u_ha (z_up I2 83 0 (z_n 0)) i = u_ha I i := by funext l; unfold u_ha; rw [cg2.i _ rfl]
            have hl := fun x y => M_heapL (n := n2) (J := J2) (x := x) (y := y) (a := a) (b := b) (d := d) hS2 hP2 hL2 hi
            rw [f1, f2, z_ln_c cg2] at hl
            by_cases hii : z_ii I i a b = true
            · have w1 : u_hs (u_hf I) I a b i = z_sum (z_ln I i) (u_hf I i) := if_pos hii
              have w2 : u_hs (u_ha I) I a b i = z_sum (z_ln I i) (u_ha I i) := if_pos hii
              simp (disch := omega) only [f_Mo_heaping_L34, z_ob (s_83 hS2), ii, hii, hl, z_sum_s, w1, w2, Nat.mul_add, or_true, true_or, or_false, false_or, z_b_T, z_b_F, Bool.false_eq_true, Classical.not_not, decide_eq_true_eq, z_sq, Option.bind_some, z_lits, z_n_add, z_n_mul, z_lt, z_le, z_eq, z_ne1, z_1ne, z_lt1, z_1lt, z_ltT, z_ltF, z_leT, z_leF, z_eqF, z_b_0, z_b_1, ↓reduceIte, eq_self, not_true_eq_false, not_false_eq_true, and_true, true_and, and_false, false_and, Nat.add_zero, Nat.zero_add]
            · have w1 : u_hs (u_hf I) I a b i = 0 := if_neg hii
              have w2 : u_hs (u_ha I) I a b i = 0 := if_neg hii
              simp (disch := omega) only [f_Mo_heaping_L34, z_ob (s_83 hS2), ii, hii, z_sum_s, w1, w2, or_true, true_or, or_false, false_or, z_b_T, z_b_F, Bool.false_eq_true, Classical.not_not, decide_eq_true_eq, z_sq, Option.bind_some, z_lits, z_n_add, z_n_mul, z_lt, z_le, z_eq, z_ne1, z_1ne, z_lt1, z_1lt, z_ltT, z_ltF, z_leT, z_leF, z_eqF, z_b_0, z_b_1, ↓reduceIte, eq_self, not_true_eq_false, not_false_eq_true, and_true, true_and, and_false, false_and, Nat.add_zero, Nat.zero_add])
          (by
            intro m
            simp (disch := omega) only [f_Mo_heaping_L34, hF, hA, or_true, true_or, or_false, false_or, z_b_T, z_b_F, Bool.false_eq_true, Classical.not_not, decide_eq_true_eq, z_sq, Option.bind_some, z_lits, z_n_add, z_n_mul, z_lt, z_le, z_eq, z_ne1, z_1ne, z_lt1, z_1lt, z_ltT, z_ltF, z_leT, z_leF, z_eqF, z_b_0, z_b_1, ↓reduceIte, eq_self, not_true_eq_false, not_false_eq_true, and_true, true_and, and_false, false_and, Nat.add_zero, Nat.zero_add])
        simp only [z_sum_0, Nat.mul_zero] at hm
        by_cases h0 : A = 0
        · simp (disch := omega) only [f_Mo_heaping, M_thr hS2, z_ob (s_83 hS2), M_isScope, hs, M_wi1 hd, hm, h0, or_true, true_or, or_false, false_or, z_b_T, z_b_F, Bool.false_eq_true, Classical.not_not, decide_eq_true_eq, z_sq, Option.bind_some, z_lits, z_n_add, z_n_mul, z_lt, z_le, z_eq, z_ne1, z_1ne, z_lt1, z_1lt, z_ltT, z_ltF, z_leT, z_leF, z_eqF, z_b_0, z_b_1, ↓reduceIte, eq_self, not_true_eq_false, not_false_eq_true, and_true, true_and, and_false, false_and, Nat.add_zero, Nat.zero_add]
          unfold z_fr
          rw [if_pos rfl]
        · have e := M_low (σ := z_h S2 (z_up I2 83 0 (z_n 0)) J2 P2 n2) (A := (5 * F : Nat)) (b := A) (what := d) (by omega) (by omega) h0 hd
          simp (disch := omega) only [f_Mo_heaping, M_thr hS2, z_ob (s_83 hS2), M_isScope, hs, M_wi1 hd, hm, h0, z_cast, e, or_true, true_or, or_false, false_or, z_b_T, z_b_F, Bool.false_eq_true, Classical.not_not, decide_eq_true_eq, z_sq, Option.bind_some, z_lits, z_n_add, z_n_mul, z_lt, z_le, z_eq, z_ne1, z_1ne, z_lt1, z_1lt, z_ltT, z_ltF, z_leT, z_leF, z_eqF, z_b_0, z_b_1, ↓reduceIte, eq_self, not_true_eq_false, not_false_eq_true, and_true, true_and, and_false, false_and, Nat.add_zero, Nat.zero_add]
      · rw [z_fr_o hd]
        simp (disch := omega) only [f_Mo_heaping, M_thr hS2, z_ob (s_83 hS2), M_isScope, hs, M_wout hd, or_true, true_or, or_false, false_or, z_b_T, z_b_F, Bool.false_eq_true, Classical.not_not, decide_eq_true_eq, z_sq, Option.bind_some, z_lits, z_n_add, z_n_mul, z_lt, z_le, z_eq, z_ne1, z_1ne, z_lt1, z_1lt, z_ltT, z_ltF, z_leT, z_leF, z_eqF, z_b_0, z_b_1, ↓reduceIte, eq_self, not_true_eq_false, not_false_eq_true, and_true, true_and, and_false, false_and, Nat.add_zero, Nat.zero_add]
  · refine z_pr.same (r := -z_n 1) ?_ ?_ m
    · simp (disch := omega) only [f_Rs_heaping, C_isScope, hs, or_true, true_or, or_false, false_or, z_b_T, z_b_F, Bool.false_eq_true, Classical.not_not, decide_eq_true_eq, z_sq, Option.bind_some, z_lits, z_n_add, z_n_mul, z_lt, z_le, z_eq, z_ne1, z_1ne, z_lt1, z_1lt, z_ltT, z_ltF, z_leT, z_leF, z_eqF, z_b_0, z_b_1, ↓reduceIte, eq_self, not_true_eq_false, not_false_eq_true, and_true, true_and, and_false, false_and, Nat.add_zero, Nat.zero_add]
    · simp (disch := omega) only [f_Mo_heaping, M_thr hS, z_ob (s_83 hS), M_isScope, hs, or_true, true_or, or_false, false_or, z_b_T, z_b_F, Bool.false_eq_true, Classical.not_not, decide_eq_true_eq, z_sq, Option.bind_some, z_lits, z_n_add, z_n_mul, z_lt, z_le, z_eq, z_ne1, z_1ne, z_lt1, z_1lt, z_ltT, z_ltF, z_leT, z_leF, z_eqF, z_b_0, z_b_1, ↓reduceIte, eq_self, not_true_eq_false, not_false_eq_true, and_true, true_and, and_false, false_and, Nat.add_zero, Nat.zero_add]
end
