/-! line. -/
theorem z_and63 : ∀ c, c < 256 → z_n c &&& z_n 63 = z_n (c % 64) := by decide +kernel
section
variable {S : z_SH} {I : z_MI} {J : z_MJ} {P : z_MP} {K : Nat → Bool} {n : Nat × Nat}
theorem d_tg_63 {D : z_D} (h : d_ok D) {l : Nat} (hl : l < D.1) : z_n (d_tg D l) &&& z_n 63 = D.2.1 4 l + (if D.2.2 1 l = 0 then z_n 0 else z_n 16) + (if D.2.2 2 l = 0 then z_n 0 else z_n 32) := by
  obtain ⟨-, -, -, -, ⟨t, h1, h2⟩, -, -⟩ := h.2.1 l hl
  have et : (D.2.1 4 l).toNatClampNeg = t := by rw [h1, z_n_nat (by omega)]
  have hlt : d_tg D l < 256 := by
    unfold d_tg
    rw [et]
    split <;> split <;> split <;> split <;> omega
  rw [z_and63 _ hlt]
  unfold d_tg
  rw [et, h1]
  by_cases k1 : D.2.2 1 l = 0 <;> by_cases k2 : D.2.2 2 l = 0 <;> by_cases k3 : D.2.1 2 l = -z_n 1 <;> by_cases k4 : D.2.1 3 l = -z_n 1 <;> simp only [k1, k2, k3, k4, if_true, if_false, z_n_add] <;> congr 1 <;> omega
theorem M_line_no (hS : z_St S) {s l d : Int32} (h : z_wi d 5 = false ∨ f_Mo_isLine 83 s l (z_h S I J P n) = some (z_n 0, z_h S I J P n)) (h2 : (∃ q, f_Mo_isLine 83 s l (z_h S I J P n) = some (z_b (q = true), z_h S I J P n))) : f_Mo_line 83 s l d (z_h S I J P n) = some (z_n 0, z_h S (z_up I 83 0 (z_n 1)) J P n) := by
  obtain ⟨q, hq⟩ := h2
  by_cases hf : f_Mo_isLine 83 s l (z_h S I J P n) = some (z_n 0, z_h S I J P n)
  · unfold f_Mo_line
    rw [z_ob (s_83 hS), Option.bind_some, hf, z_sq]
    simp (disch := omega) only [M_thr hS, M_r0 hS, z_up_s, or_true, true_or, or_false, false_or, z_b_T, z_b_F, Bool.false_eq_true, Classical.not_not, decide_eq_true_eq, z_sq, Option.bind_some, z_lits, z_n_add, z_n_mul, z_lt, z_le, z_eq, z_ne1, z_1ne, z_lt1, z_1lt, z_ltT, z_ltF, z_leT, z_leF, z_eqF, z_b_0, z_b_1, ↓reduceIte, eq_self, not_true_eq_false, not_false_eq_true, and_true, true_and, and_false, false_and, Nat.add_zero, Nat.zero_add]
  · have hw : z_wi d 5 = false := h.resolve_right hf
    unfold f_Mo_line
    rw [z_ob (s_83 hS), Option.bind_some, hq, z_sq]
    have hq1 : q = true := by
      cases q with
      | true => rfl
      | false => exact absurd (by rw [hq]; rfl) hf
    subst hq1
    rw [z_b_t rfl, z_lits.1, if_neg (by decide)]
    simp (maxSteps := 4000000) (disch := omega) only [M_wi, hw, M_thr hS, M_r0 hS, z_up_s, or_true, true_or, or_false, false_or, z_b_T, z_b_F, Bool.false_eq_true, Classical.not_not, decide_eq_true_eq, z_sq, Option.bind_some, z_lits, z_n_add, z_n_mul, z_lt, z_le, z_eq, z_ne1, z_1ne, z_lt1, z_1lt, z_ltT, z_ltF, z_leT, z_leF, z_eqF, z_b_0, z_b_1, ↓reduceIte, eq_self, not_true_eq_false, not_false_eq_true, and_true, true_and, and_false, false_and, Nat.add_zero, Nat.zero_add]
set_option maxRecDepth 100000 in
set_option maxHeartbeats 4000000 in
theorem X_line (B : z_B S I J P K n.1) (s l d : Int32) : z_prt (f_Rs_line 8 s l d) (f_Mo_line 83 s l d) S I J P K n := by
  have hS := B.qS
  have hP := B.qP
  have hn := B.qn
  have m1 : z_mf I J (z_up I 83 0 (z_n 1)) J := z_mf.up rfl
  have m0 : z_mf I J (z_up I 83 0 (z_n 0)) J := z_mf.up rfl
  have e8 : q_gr (q_gf (z_h S I J P n) 0 8 3) = some 13 := z_gr (s_8 hS) rfl (p_8_3 hP)
  have thr : f_Rs_line 8 s l d (z_h S I J P n) = some (none, z_h S I J P (n.1 + 1, n.2 + 6)) → (z_wi d 5 = false ∨ ∀ n', f_Mo_isLine 83 s l (z_h S I J P n') = some (z_n 0, z_h S I J P n')) → (∀ n', ∃ q, f_Mo_isLine 83 s l (z_h S I J P n') = some (z_b (q = true), z_h S I J P n')) → z_prt (f_Rs_line 8 s l d) (f_Mo_line 83 s l d) S I J P K n := by
    intro h1 h2 h3
    exact z_prt.thr' h1 (z_ag.refl _ _ _ _ _ _) ⟨by simp, by simp, by simp⟩ (M_line_no hS (h2.imp id (fun q => q _)) (h3 _)) m1 (z_up_s _ _ _ _)
  rcases z_in s 23 (by omega) with ⟨x, hx, rfl⟩ | ho
  · have hL := B.qL
    rcases z_in l 11 (by omega) with ⟨y, hy, rfl⟩ | hlo
    · have l1 := fun n' => M_isLine (n := n') (J := J) hS hP hL (s := x) (l := y) (by omega) hy
      have l1' : ∀ n', ∃ q, f_Mo_isLine 83 (z_n x) (z_n y) (z_h S I J P n') = some (z_b (q = true), z_h S I J P n') := by
        intro n'
        refine ⟨decide (z_th I x = true ∧ y < z_ln I x), ?_⟩
        rw [l1]
        simp only [decide_eq_true_eq]
      rcases B.pg (s := x) (by omega) with ⟨h5, h6⟩ | ⟨h5, p, h6, h7⟩
      · refine thr ?_ (Or.inr fun n' => ?_) l1'
        · simp (maxSteps := 4000000) (disch := omega) only [f_Rs_line, e8, z_ob (s_13 hS), C_pageOf hS hP, h6, z_thr, or_true, true_or, or_false, false_or, z_b_T, z_b_F, Bool.false_eq_true, Classical.not_not, decide_eq_true_eq, z_sq, Option.bind_some, z_lits, z_n_add, z_n_mul, z_lt, z_le, z_eq, z_ne1, z_1ne, z_lt1, z_1lt, z_ltT, z_ltF, z_leT, z_leF, z_eqF, z_b_0, z_b_1, ↓reduceIte, eq_self, not_true_eq_false, not_false_eq_true, and_true, true_and, and_false, false_and, Nat.add_zero, Nat.zero_add]
        · rw [l1, z_b_f]; rw [h5]; simp
      · have D := B.qD (s := x) (by omega)
        have D1 : z_ln I x ≤ 12 := D.1
        have r3 := z_ps_r h7.2.1
        have hy1 := C_has (J := J) (n := n) h7.2.1 h7.size D.1 hy
        by_cases k1 : y < z_ln I x
        · have k1' : y < (z_Ds I J x).1 := k1
          rcases z_in d 5 (by omega) with ⟨w, hw, rfl⟩ | hdo
          · have hwi : z_wi (z_n w) 5 = true := z_wi_in hw (by omega)
            obtain ⟨sx, -, -, -, -, f1, f2⟩ := D.2.1 y k1
            have pd := h7.2.2.1
            have a1 : I (p + 4) y = I 91 (12 * x + y) := pd.se k1
            have a2 : I (p + 5) y = I 92 (12 * x + y) := pd.ag k1
            have a3 : I (p + 7) y = I 93 (12 * x + y) := pd.w k1
            have a4 : I (p + 8) y = I 94 (12 * x + y) := pd.sw k1
            have a5 : I (p + 6) y = z_n (d_tg (z_Ds I J x) y) := pd.tg k1
            have sl := C_slack (n := n) h7.2.1 pd k1 D.1
            have sx' : I 91 (12 * x + y) = z_n 0 ∨ I 91 (12 * x + y) = z_n 1 := sx
            have cI : ∀ a, z_cra a = true → ∀ i, z_up I 83 0 (z_n 0) a i = I a i := fun a ha i => m0.cg.i a ha i
            have fin : ∀ v, f_Rs_line 8 (z_n x) (z_n y) (z_n w) (z_h S I J P n) = some (some v, z_h S I J P n) → f_Mo_line 83 (z_n x) (z_n y) (z_n w) (z_h S I J P n) = some (v, z_h S (z_up I 83 0 (z_n 0)) J P n) → z_prt (f_Rs_line 8 (z_n x) (z_n y) (z_n w)) (f_Mo_line 83 (z_n x) (z_n y) (z_n w)) S I J P K n := fun v q1 q2 => z_prt.some' v q1 (z_ag.refl _ _ _ _ _ _) ⟨by omega, by omega, by omega⟩ q2 m0 (z_up_s _ _ _ _)
            have lt : f_Mo_isLine 83 (z_n x) (z_n y) (z_h S I J P n) = some (z_n 1, z_h S I J P n) := by rw [l1, z_b_t ⟨h5, k1⟩]
            have : w = 0 ∨ w = 1 ∨ w = 2 ∨ w = 3 ∨ w = 4 ∨ w = 5 := by omega
            rcases this with rfl | rfl | rfl | rfl | rfl | rfl
            · refine fin (I 91 (12 * x + y)) ?_ ?_
              · rcases sx' with e | e
                · simp (disch := omega) only [f_Rs_line, e8, z_ob (s_13 hS), C_pageOf hS hP, h6, r3, hy1, k1', C_in, a1, e, or_true, true_or, or_false, false_or, z_b_T, z_b_F, Bool.false_eq_true, Classical.not_not, decide_eq_true_eq, z_sq, Option.bind_some, z_lits, z_n_add, z_n_mul, z_lt, z_le, z_eq, z_ne1, z_1ne, z_lt1, z_1lt, z_ltT, z_ltF, z_leT, z_leF, z_eqF, z_b_0, z_b_1, ↓reduceIte, eq_self, not_true_eq_false, not_false_eq_true, and_true, true_and, and_false, false_and, Nat.add_zero, Nat.zero_add]
                · simp (disch := omega) only [f_Rs_line, e8, z_ob (s_13 hS), C_pageOf hS hP, h6, r3, hy1, k1', C_in, a1, e, or_true, true_or, or_false, false_or, z_b_T, z_b_F, Bool.false_eq_true, Classical.not_not, decide_eq_true_eq, z_sq, Option.bind_some, z_lits, z_n_add, z_n_mul, z_lt, z_le, z_eq, z_ne1, z_1ne, z_lt1, z_1lt, z_ltT, z_ltF, z_leT, z_leF, z_eqF, z_b_0, z_b_1, ↓reduceIte, eq_self, not_true_eq_false, not_false_eq_true, and_true, true_and, and_false, false_and, Nat.add_zero, Nat.zero_add]
              · unfold f_Mo_line
                rw [z_ob (s_83 hS), Option.bind_some, lt, z_sq]
                simp (disch := omega) only [M_wi, hwi, M_thr hS, M_r0 hS, z_up_s, z_Mr hS hP, or_true, true_or, or_false, false_or, z_b_T, z_b_F, Bool.false_eq_true, Classical.not_not, decide_eq_true_eq, z_sq, Option.bind_some, z_lits, z_n_add, z_n_mul, z_lt, z_le, z_eq, z_ne1, z_1ne, z_lt1, z_1lt, z_ltT, z_ltF, z_leT, z_leF, z_eqF, z_b_0, z_b_1, ↓reduceIte, eq_self, not_true_eq_false, not_false_eq_true, and_true, true_and, and_false, false_and, Nat.add_zero, Nat.zero_add]
                rw [cI _ rfl]
            · refine fin (I 92 (12 * x + y)) ?_ ?_
              · simp (disch := omega) only [f_Rs_line, e8, z_ob (s_13 hS), C_pageOf hS hP, h6, r3, hy1, k1', C_in, a2, or_true, true_or, or_false, false_or, z_b_T, z_b_F, Bool.false_eq_true, Classical.not_not, decide_eq_true_eq, z_sq, Option.bind_some, z_lits, z_n_add, z_n_mul, z_lt, z_le, z_eq, z_ne1, z_1ne, z_lt1, z_1lt, z_ltT, z_ltF, z_leT, z_leF, z_eqF, z_b_0, z_b_1, ↓reduceIte, eq_self, not_true_eq_false, not_false_eq_true, and_true, true_and, and_false, false_and, Nat.add_zero, Nat.zero_add]
              · unfold f_Mo_line
                rw [z_ob (s_83 hS), Option.bind_some, lt, z_sq]
                simp (disch := omega) only [M_wi, hwi, M_thr hS, M_r0 hS, z_up_s, z_Mr hS hP, or_true, true_or, or_false, false_or, z_b_T, z_b_F, Bool.false_eq_true, Classical.not_not, decide_eq_true_eq, z_sq, Option.bind_some, z_lits, z_n_add, z_n_mul, z_lt, z_le, z_eq, z_ne1, z_1ne, z_lt1, z_1lt, z_ltT, z_ltF, z_leT, z_leF, z_eqF, z_b_0, z_b_1, ↓reduceIte, eq_self, not_true_eq_false, not_false_eq_true, and_true, true_and, and_false, false_and, Nat.add_zero, Nat.zero_add]
                rw [cI _ rfl]
            · refine fin (z_n (z_wd (I 92 (12 * x + y)))) ?_ ?_
              · have e2 := z_sl_wd (I 92 (12 * x + y))
                rw [z_n_mul] at e2
                simp (disch := omega) only [f_Rs_line, e8, z_ob (s_13 hS), C_pageOf hS hP, h6, r3, hy1, k1', C_in, sl, or_true, true_or, or_false, false_or, z_b_T, z_b_F, Bool.false_eq_true, Classical.not_not, decide_eq_true_eq, z_sq, Option.bind_some, z_lits, z_n_add, z_n_mul, z_lt, z_le, z_eq, z_ne1, z_1ne, z_lt1, z_1lt, z_ltT, z_ltF, z_leT, z_leF, z_eqF, z_b_0, z_b_1, ↓reduceIte, eq_self, not_true_eq_false, not_false_eq_true, and_true, true_and, and_false, false_and, Nat.add_zero, Nat.zero_add]
                exact congrArg (fun e => some (some e, z_h S I J P n)) e2
              · unfold f_Mo_line
                rw [z_ob (s_83 hS), Option.bind_some, lt, z_sq]
                simp (disch := omega) only [M_wi, hwi, M_thr hS, M_r0 hS, z_up_s, M_wide, z_Mr hS hP, or_true, true_or, or_false, false_or, z_b_T, z_b_F, Bool.false_eq_true, Classical.not_not, decide_eq_true_eq, z_sq, Option.bind_some, z_lits, z_n_add, z_n_mul, z_lt, z_le, z_eq, z_ne1, z_1ne, z_lt1, z_1lt, z_ltT, z_ltF, z_leT, z_leF, z_eqF, z_b_0, z_b_1, ↓reduceIte, eq_self, not_true_eq_false, not_false_eq_true, and_true, true_and, and_false, false_and, Nat.add_zero, Nat.zero_add]
                rw [cI _ rfl]
            · refine fin (I 93 (12 * x + y)) ?_ ?_
              · simp (disch := omega) only [f_Rs_line, e8, z_ob (s_13 hS), C_pageOf hS hP, h6, r3, hy1, k1', C_in, a3, or_true, true_or, or_false, false_or, z_b_T, z_b_F, Bool.false_eq_true, Classical.not_not, decide_eq_true_eq, z_sq, Option.bind_some, z_lits, z_n_add, z_n_mul, z_lt, z_le, z_eq, z_ne1, z_1ne, z_lt1, z_1lt, z_ltT, z_ltF, z_leT, z_leF, z_eqF, z_b_0, z_b_1, ↓reduceIte, eq_self, not_true_eq_false, not_false_eq_true, and_true, true_and, and_false, false_and, Nat.add_zero, Nat.zero_add]
              · unfold f_Mo_line
                rw [z_ob (s_83 hS), Option.bind_some, lt, z_sq]
                simp (disch := omega) only [M_wi, hwi, M_thr hS, M_r0 hS, z_up_s, z_Mr hS hP, or_true, true_or, or_false, false_or, z_b_T, z_b_F, Bool.false_eq_true, Classical.not_not, decide_eq_true_eq, z_sq, Option.bind_some, z_lits, z_n_add, z_n_mul, z_lt, z_le, z_eq, z_ne1, z_1ne, z_lt1, z_1lt, z_ltT, z_ltF, z_leT, z_leF, z_eqF, z_b_0, z_b_1, ↓reduceIte, eq_self, not_true_eq_false, not_false_eq_true, and_true, true_and, and_false, false_and, Nat.add_zero, Nat.zero_add]
                rw [cI _ rfl]
            · refine fin (I 94 (12 * x + y)) ?_ ?_
              · simp (disch := omega) only [f_Rs_line, e8, z_ob (s_13 hS), C_pageOf hS hP, h6, r3, hy1, k1', C_in, a4, or_true, true_or, or_false, false_or, z_b_T, z_b_F, Bool.false_eq_true, Classical.not_not, decide_eq_true_eq, z_sq, Option.bind_some, z_lits, z_n_add, z_n_mul, z_lt, z_le, z_eq, z_ne1, z_1ne, z_lt1, z_1lt, z_ltT, z_ltF, z_leT, z_leF, z_eqF, z_b_0, z_b_1, ↓reduceIte, eq_self, not_true_eq_false, not_false_eq_true, and_true, true_and, and_false, false_and, Nat.add_zero, Nat.zero_add]
              · unfold f_Mo_line
                rw [z_ob (s_83 hS), Option.bind_some, lt, z_sq]
                simp (disch := omega) only [M_wi, hwi, M_thr hS, M_r0 hS, z_up_s, z_Mr hS hP, or_true, true_or, or_false, false_or, z_b_T, z_b_F, Bool.false_eq_true, Classical.not_not, decide_eq_true_eq, z_sq, Option.bind_some, z_lits, z_n_add, z_n_mul, z_lt, z_le, z_eq, z_ne1, z_1ne, z_lt1, z_1lt, z_ltT, z_ltF, z_leT, z_leF, z_eqF, z_b_0, z_b_1, ↓reduceIte, eq_self, not_true_eq_false, not_false_eq_true, and_true, true_and, and_false, false_and, Nat.add_zero, Nat.zero_add]
                rw [cI _ rfl]
            · refine fin (z_n (d_tg (z_Ds I J x) y) &&& z_n 63) ?_ ?_
              · simp (disch := omega) only [f_Rs_line, e8, z_ob (s_13 hS), C_pageOf hS hP, h6, r3, hy1, k1', C_in, a5, or_true, true_or, or_false, false_or, z_b_T, z_b_F, Bool.false_eq_true, Classical.not_not, decide_eq_true_eq, z_sq, Option.bind_some, z_lits, z_n_add, z_n_mul, z_lt, z_le, z_eq, z_ne1, z_1ne, z_lt1, z_1lt, z_ltT, z_ltF, z_leT, z_leF, z_eqF, z_b_0, z_b_1, ↓reduceIte, eq_self, not_true_eq_false, not_false_eq_true, and_true, true_and, and_false, false_and, Nat.add_zero, Nat.zero_add]
              · rw [d_tg_63 D k1]
                have g1 : (z_Ds I J x).2.2 1 y = J 97 (12 * x + y) := rfl
                have g2 : (z_Ds I J x).2.2 2 y = J 98 (12 * x + y) := rfl
                have g3 : (z_Ds I J x).2.1 4 y = I 95 (12 * x + y) := rfl
                rw [g1] at f1
                rw [g2] at f2
                rw [g1, g2, g3]
                unfold f_Mo_line
                rw [z_ob (s_83 hS), Option.bind_some, lt, z_sq]
                rcases z_tf (J 97 (12 * x + y) = 0) with t1 | t1 <;> rcases z_tf (J 98 (12 * x + y) = 0) with t2 | t2 <;> simp (disch := omega) only [M_wi, hwi, M_thr hS, M_r0 hS, z_up_s, z_pos f1, z_pos f2, t1, t2, z_Mr hS hP, or_true, true_or, or_false, false_or, z_b_T, z_b_F, Bool.false_eq_true, Classical.not_not, decide_eq_true_eq, z_sq, Option.bind_some, z_lits, z_n_add, z_n_mul, z_lt, z_le, z_eq, z_ne1, z_1ne, z_lt1, z_1lt, z_ltT, z_ltF, z_leT, z_leF, z_eqF, z_b_0, z_b_1, ↓reduceIte, eq_self, not_true_eq_false, not_false_eq_true, and_true, true_and, and_false, false_and, Nat.add_zero, Nat.zero_add] <;> rw [cI _ rfl]
          · refine thr ?_ (Or.inl (z_wi_o hdo)) l1'
            simp (disch := omega) only [f_Rs_line, e8, z_ob (s_13 hS), C_pageOf hS hP, h6, r3, hy1, k1', C_out hdo, z_thr, or_true, true_or, or_false, false_or, z_b_T, z_b_F, Bool.false_eq_true, Classical.not_not, decide_eq_true_eq, z_sq, Option.bind_some, z_lits, z_n_add, z_n_mul, z_lt, z_le, z_eq, z_ne1, z_1ne, z_lt1, z_1lt, z_ltT, z_ltF, z_leT, z_leF, z_eqF, z_b_0, z_b_1, ↓reduceIte, eq_self, not_true_eq_false, not_false_eq_true, and_true, true_and, and_false, false_and, Nat.add_zero, Nat.zero_add]
        · refine thr ?_ (Or.inr fun n' => ?_) l1'
          · simp (maxSteps := 4000000) (disch := omega) only [f_Rs_line, e8, z_ob (s_13 hS), C_pageOf hS hP, h6, r3, hy1, show ¬ y < (z_Ds I J x).1 from k1, z_thr, or_true, true_or, or_false, false_or, z_b_T, z_b_F, Bool.false_eq_true, Classical.not_not, decide_eq_true_eq, z_sq, Option.bind_some, z_lits, z_n_add, z_n_mul, z_lt, z_le, z_eq, z_ne1, z_1ne, z_lt1, z_1lt, z_ltT, z_ltF, z_leT, z_leF, z_eqF, z_b_0, z_b_1, ↓reduceIte, eq_self, not_true_eq_false, not_false_eq_true, and_true, true_and, and_false, false_and, Nat.add_zero, Nat.zero_add]
          · rw [l1, z_b_f]; exact fun e => k1 e.2
    · have l2 := fun n' => M_isLine_o (n := n') (J := J) hS hP hL (s := x) (l := l) (by omega) hlo
      refine thr ?_ (Or.inr l2) (fun n' => ⟨false, l2 n'⟩)
      rcases B.pg (s := x) (by omega) with ⟨h5, h6⟩ | ⟨h5, p, h6, h7⟩
      · simp (maxSteps := 4000000) (disch := omega) only [f_Rs_line, e8, z_ob (s_13 hS), C_pageOf hS hP, h6, z_thr, or_true, true_or, or_false, false_or, z_b_T, z_b_F, Bool.false_eq_true, Classical.not_not, decide_eq_true_eq, z_sq, Option.bind_some, z_lits, z_n_add, z_n_mul, z_lt, z_le, z_eq, z_ne1, z_1ne, z_lt1, z_1lt, z_ltT, z_ltF, z_leT, z_leF, z_eqF, z_b_0, z_b_1, ↓reduceIte, eq_self, not_true_eq_false, not_false_eq_true, and_true, true_and, and_false, false_and, Nat.add_zero, Nat.zero_add]
      · simp (maxSteps := 4000000) (disch := omega) only [f_Rs_line, e8, z_ob (s_13 hS), C_pageOf hS hP, h6, z_ps_r h7.2.1, C_has_o (J := J) (n := n) h7.2.1 h7.size (B.qD (s := x) (by omega)).1 hlo, z_thr, or_true, true_or, or_false, false_or, z_b_T, z_b_F, Bool.false_eq_true, Classical.not_not, decide_eq_true_eq, z_sq, Option.bind_some, z_lits, z_n_add, z_n_mul, z_lt, z_le, z_eq, z_ne1, z_1ne, z_lt1, z_1lt, z_ltT, z_ltF, z_leT, z_leF, z_eqF, z_b_0, z_b_1, ↓reduceIte, eq_self, not_true_eq_false, not_false_eq_true, and_true, true_and, and_false, false_and, Nat.add_zero, Nat.zero_add]
  · have l2 := fun n' => M_isLine_oo (n := n') (I := I) (J := J) (l := l) hS hP ho
    refine thr ?_ (Or.inr l2) (fun n' => ⟨false, l2 n'⟩)
    simp (maxSteps := 4000000) (disch := omega) only [f_Rs_line, e8, z_ob (s_13 hS), C_pageOf_o ho, z_thr, or_true, true_or, or_false, false_or, z_b_T, z_b_F, Bool.false_eq_true, Classical.not_not, decide_eq_true_eq, z_sq, Option.bind_some, z_lits, z_n_add, z_n_mul, z_lt, z_le, z_eq, z_ne1, z_1ne, z_lt1, z_1lt, z_ltT, z_ltF, z_leT, z_leF, z_eqF, z_b_0, z_b_1, ↓reduceIte, eq_self, not_true_eq_false, not_false_eq_true, and_true, true_and, and_false, false_and, Nat.add_zero, Nat.zero_add]
end
