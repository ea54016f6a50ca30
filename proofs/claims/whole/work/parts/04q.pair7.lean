/-! bounds, next, heaping. -/
section
variable {S : z_SH} {I : z_MI} {J : z_MJ} {P : z_MP} {K : Nat → Bool} {n : Nat × Nat}
def u_ur (I : z_MI) (s : Nat) : Bool := decide (¬ I 85 s = z_n 0 ∧ I 86 s = z_n 0)
def u_my (I : z_MI) (s : Nat) : Nat := (I 89 s).toNatClampNeg
theorem u_ur_c {I I' : z_MI} {J J' : z_MJ} (h : z_cg I J I' J') (s : Nat) : u_ur I' s = u_ur I s := by unfold u_ur; rw [h.i _ rfl, h.i _ rfl]
theorem u_my_c {I I' : z_MI} {J J' : z_MJ} (h : z_cg I J I' J') (s : Nat) : u_my I' s = u_my I s := by unfold u_my; rw [h.i _ rfl]
theorem z_B.may (B : z_B S I J P K n.1) {s : Nat} (hs : s < 24) : I 89 s = z_n (u_my I s) ∧ u_my I s ≤ 20 := by
  obtain ⟨m, h1, h2⟩ := (B.2.2.2.1.2.2.2.1 s hs).2.2.2.2
  have : u_my I s = m := by unfold u_my; rw [h1, z_n_nat (by omega)]
  rw [this]; exact ⟨h1, h2⟩
theorem z_B.tr (B : z_B S I J P K n.1) {s : Nat} (hs : s < 24) : (I 85 s = z_n 0 ∨ I 85 s = z_n 1) ∧ (I 86 s = z_n 0 ∨ I 86 s = z_n 1) ∧ (I 86 s = z_n 1 → I 85 s = z_n 1) := ⟨(B.2.2.2.1.2.2.2.1 s hs).1, (B.2.2.2.1.2.2.2.1 s hs).2.1, (B.2.2.2.1.2.2.2.1 s hs).2.2.1⟩
set_option maxRecDepth 100000 in
set_option maxHeartbeats 4000000 in
theorem C_isTold (B : z_B S I J P K n.1) {s : Nat} (hs : s < 24) : f_Sf_isTold 13 (z_n s) (z_h S I J P n) = some (z_b (¬ I 85 s = z_n 0), z_h S I J P n) := by
  have hS := B.qS
  have hP := B.qP
  have e1 := (B.qC.1 s hs).1
  simp (disch := omega) only [f_Sf_isTold, C_in, z_Shr hS hP, e1, or_true, true_or, or_false, false_or, z_b_T, z_b_F, Bool.false_eq_true, Classical.not_not, decide_eq_true_eq, z_sq, Option.bind_some, z_lits, z_n_add, z_n_mul, z_lt, z_le, z_eq, z_ne1, z_1ne, z_lt1, z_1lt, z_ltT, z_ltF, z_leT, z_leF, z_eqF, z_b_0, z_b_1, ↓reduceIte, eq_self, not_true_eq_false, not_false_eq_true, and_true, true_and, and_false, false_and, Nat.add_zero, Nat.zero_add]
  by_cases h : I 85 s = z_n 0 <;> simp (disch := omega) only [h, or_true, true_or, or_false, false_or, z_b_T, z_b_F, Bool.false_eq_true, Classical.not_not, decide_eq_true_eq, z_sq, Option.bind_some, z_lits, z_n_add, z_n_mul, z_lt, z_le, z_eq, z_ne1, z_1ne, z_lt1, z_1lt, z_ltT, z_ltF, z_leT, z_leF, z_eqF, z_b_0, z_b_1, ↓reduceIte, eq_self, not_true_eq_false, not_false_eq_true, and_true, true_and, and_false, false_and, Nat.add_zero, Nat.zero_add]
theorem C_isTold_o {s : Int32} {x : Nat} {σ : q_H} (h : z_o s 23) : f_Sf_isTold x s σ = some (z_n 0, σ) := by
  simp (disch := omega) only [f_Sf_isTold, C_out h, or_true, true_or, or_false, false_or, z_b_T, z_b_F, Bool.false_eq_true, Classical.not_not, decide_eq_true_eq, z_sq, Option.bind_some, z_lits, z_n_add, z_n_mul, z_lt, z_le, z_eq, z_ne1, z_1ne, z_lt1, z_1lt, z_ltT, z_ltF, z_leT, z_leF, z_eqF, z_b_0, z_b_1, ↓reduceIte, eq_self, not_true_eq_false, not_false_eq_true, and_true, true_and, and_false, false_and, Nat.add_zero, Nat.zero_add]
set_option maxRecDepth 100000 in
set_option maxHeartbeats 4000000 in
theorem C_isUnread (B : z_B S I J P K n.1) {s : Nat} (hs : s < 24) : f_Sf_isUnread 13 (z_n s) (z_h S I J P n) = some (z_b (u_ur I s = true), z_h S I J P n) := by
  have hS := B.qS
  have hP := B.qP
  have ⟨t1, t2, t3⟩ := B.tr hs
  have it := C_isTold B hs
  unfold u_ur
  rcases B.pg hs with ⟨h1, h2⟩ | ⟨h1, p, h2, h3⟩
  · unfold z_th at h1
    simp only [decide_eq_false_iff_not] at h1
    by_cases h : I 85 s = z_n 0
    · simp (disch := omega) only [f_Sf_isUnread, z_ob (s_13 hS), it, h, or_true, true_or, or_false, false_or, z_b_T, z_b_F, Bool.false_eq_true, Classical.not_not, decide_eq_true_eq, z_sq, Option.bind_some, z_lits, z_n_add, z_n_mul, z_lt, z_le, z_eq, z_ne1, z_1ne, z_lt1, z_1lt, z_ltT, z_ltF, z_leT, z_leF, z_eqF, z_b_0, z_b_1, ↓reduceIte, eq_self, not_true_eq_false, not_false_eq_true, and_true, true_and, and_false, false_and, Nat.add_zero, Nat.zero_add]
    · have hr : I 86 s = z_n 0 := by
        by_cases hr : I 86 s = z_n 0
        · exact hr
        · exact absurd ⟨h, hr⟩ h1
      simp (disch := omega) only [f_Sf_isUnread, z_ob (s_13 hS), it, h, hr, z_Shr hS hP, h2, or_true, true_or, or_false, false_or, z_b_T, z_b_F, Bool.false_eq_true, Classical.not_not, decide_eq_true_eq, z_sq, Option.bind_some, z_lits, z_n_add, z_n_mul, z_lt, z_le, z_eq, z_ne1, z_1ne, z_lt1, z_1lt, z_ltT, z_ltF, z_leT, z_leF, z_eqF, z_b_0, z_b_1, ↓reduceIte, eq_self, not_true_eq_false, not_false_eq_true, and_true, true_and, and_false, false_and, Nat.add_zero, Nat.zero_add]
  · unfold z_th at h1
    obtain ⟨k1, k2⟩ := of_decide_eq_true h1
    simp (disch := omega) only [f_Sf_isUnread, z_ob (s_13 hS), it, k1, k2, z_Shr hS hP, h2, or_true, true_or, or_false, false_or, z_b_T, z_b_F, Bool.false_eq_true, Classical.not_not, decide_eq_true_eq, z_sq, Option.bind_some, z_lits, z_n_add, z_n_mul, z_lt, z_le, z_eq, z_ne1, z_1ne, z_lt1, z_1lt, z_ltT, z_ltF, z_leT, z_leF, z_eqF, z_b_0, z_b_1, ↓reduceIte, eq_self, not_true_eq_false, not_false_eq_true, and_true, true_and, and_false, false_and, Nat.add_zero, Nat.zero_add]
def u_op (I : z_MI) (s : Nat) : Nat := if u_ur I s = true then u_my I s else 0
def u_open (I : z_MI) : Nat := z_sum 24 (u_op I)
theorem u_open_le (B : z_B S I J P K n.1) : u_open I ≤ 480 := z_sum_le _ 20 24 (fun s hs => by unfold u_op; have := (B.may hs).2; split <;> omega)
theorem u_open_c {I I' : z_MI} {J J' : z_MJ} (h : z_cg I J I' J') : u_open I' = u_open I := z_sum_eq (fun s _ => by unfold u_op; rw [u_ur_c h, u_my_c h])
set_option maxRecDepth 100000 in
set_option maxHeartbeats 4000000 in
theorem X_bounds (B : z_B S I J P K n.1) (d : Int32) : z_pr (f_Rs_bounds 8 d) (f_Mo_bounds 83 d) S I J P K n := by
  have hS := B.qS
  have hP := B.qP
  have hn := B.qn
  have m0 : z_mf I J (z_up I 83 0 (z_n 0)) J := z_mf.up rfl
  -- the reference's loop
  have mloop : ∀ (S' : z_SH) (I1 : z_MI) (J1 : z_MJ) (P' : z_MP) (n' : Nat × Nat), z_St S' → z_Pt P' → z_cg I J I1 J1 → f_Mo_bounds_L9 83 d q_FU (z_n 0) (z_n 0) (z_h S' I1 J1 P' n') = some (z_n (u_open I), z_h S' I1 J1 P' n') := by
    intro S' I1 J1 P' n' hS' hP' c
    have h := z_run (fun m i => f_Mo_bounds_L9 83 d m (z_n (z_sum i (u_op I))) (z_n i) (z_h S' I1 J1 P' n')) 24 (r := some (z_n (u_open I), z_h S' I1 J1 P' n')) (by omega)
      (by
        intro m i hi
        have e1 := c.i 85 rfl i
        have e2 := c.i 86 rfl i
        have e3 := c.i 89 rfl i
        have em := (B.may hi).1
        simp (disch := omega) only [f_Mo_bounds_L9, z_Mr hS' hP', e1, e2, e3, em, z_sum_s, or_true, true_or, or_false, false_or, z_b_T, z_b_F, Bool.false_eq_true, Classical.not_not, decide_eq_true_eq, z_sq, Option.bind_some, z_lits, z_n_add, z_n_mul, z_lt, z_le, z_eq, z_ne1, z_1ne, z_lt1, z_1lt, z_ltT, z_ltF, z_leT, z_leF, z_eqF, z_b_0, z_b_1, ↓reduceIte, eq_self, not_true_eq_false, not_false_eq_true, and_true, true_and, and_false, false_and, Nat.add_zero, Nat.zero_add]
        unfold u_op u_ur
        by_cases h1 : I 85 i = z_n 0
        · simp (disch := omega) only [h1, or_true, true_or, or_false, false_or, z_b_T, z_b_F, Bool.false_eq_true, Classical.not_not, decide_eq_true_eq, z_sq, Option.bind_some, z_lits, z_n_add, z_n_mul, z_lt, z_le, z_eq, z_ne1, z_1ne, z_lt1, z_1lt, z_ltT, z_ltF, z_leT, z_leF, z_eqF, z_b_0, z_b_1, ↓reduceIte, eq_self, not_true_eq_false, not_false_eq_true, and_true, true_and, and_false, false_and, Nat.add_zero, Nat.zero_add]
        · by_cases h2 : I 86 i = z_n 0
          · simp (disch := omega) only [h1, h2, or_true, true_or, or_false, false_or, z_b_T, z_b_F, Bool.false_eq_true, Classical.not_not, decide_eq_true_eq, z_sq, Option.bind_some, z_lits, z_n_add, z_n_mul, z_lt, z_le, z_eq, z_ne1, z_1ne, z_lt1, z_1lt, z_ltT, z_ltF, z_leT, z_leF, z_eqF, z_b_0, z_b_1, ↓reduceIte, eq_self, not_true_eq_false, not_false_eq_true, and_true, true_and, and_false, false_and, Nat.add_zero, Nat.zero_add]
          · simp (disch := omega) only [h1, h2, or_true, true_or, or_false, false_or, z_b_T, z_b_F, Bool.false_eq_true, Classical.not_not, decide_eq_true_eq, z_sq, Option.bind_some, z_lits, z_n_add, z_n_mul, z_lt, z_le, z_eq, z_ne1, z_1ne, z_lt1, z_1lt, z_ltT, z_ltF, z_leT, z_leF, z_eqF, z_b_0, z_b_1, ↓reduceIte, eq_self, not_true_eq_false, not_false_eq_true, and_true, true_and, and_false, false_and, Nat.add_zero, Nat.zero_add])
      (by
        intro m
        simp (disch := omega) only [f_Mo_bounds_L9, or_true, true_or, or_false, false_or, z_b_T, z_b_F, Bool.false_eq_true, Classical.not_not, decide_eq_true_eq, z_sq, Option.bind_some, z_lits, z_n_add, z_n_mul, z_lt, z_le, z_eq, z_ne1, z_1ne, z_lt1, z_1lt, z_ltT, z_ltF, z_leT, z_leF, z_eqF, z_b_0, z_b_1, ↓reduceIte, eq_self, not_true_eq_false, not_false_eq_true, and_true, true_and, and_false, false_and, Nat.add_zero, Nat.zero_add]
        rfl)
    simp only [z_sum_0] at h
    exact h
  rcases z_in d 3 (by omega) with ⟨x, hx, rfl⟩ | ho
  · obtain ⟨S', I', J', P', h1, h2, h3, hS', hP', cg⟩ := C_gat B (a := z_n 0) (b := z_n 0) rfl
    have B1 : z_B S' I' J' P' K (n.1 + 2, n.2 + 16).1 := B.mono z_keep0 h2 (by simp)
    have cloop : f_Rs_bounds_L23 8 (z_n x) n.1 q_FU (z_n 0) (z_n 0) (z_h S' I' J' P' (n.1 + 2, n.2 + 16)) = some (z_n (u_open I), z_h S' I' J' P' (n.1 + 2, n.2 + 16)) := by
      have h := z_run (fun m i => f_Rs_bounds_L23 8 (z_n x) n.1 m (z_n (z_sum i (u_op I))) (z_n i) (z_h S' I' J' P' (n.1 + 2, n.2 + 16))) 24 (r := some (z_n (u_open I), z_h S' I' J' P' (n.1 + 2, n.2 + 16))) (by omega)
        (by
          intro m i hi
          have iu := C_isUnread (n := (n.1 + 2, n.2 + 16)) B1 hi
          rw [u_ur_c cg] at iu
          have e4 := (B1.qC.1 i hi).2.2.2
          have e3 := cg.i 89 rfl i
          have em := (B.may hi).1
          have e8 : q_gr (q_gf (z_h S' I' J' P' (n.1 + 2, n.2 + 16)) 0 8 3) = some 13 := z_gr (s_8 hS') rfl (p_8_3 hP')
          simp (disch := omega) only [f_Rs_bounds_L23, e8, z_ob (s_13 hS'), iu, z_Shr hS' hP', e4, e3, em, z_sum_s, or_true, true_or, or_false, false_or, z_b_T, z_b_F, Bool.false_eq_true, Classical.not_not, decide_eq_true_eq, z_sq, Option.bind_some, z_lits, z_n_add, z_n_mul, z_lt, z_le, z_eq, z_ne1, z_1ne, z_lt1, z_1lt, z_ltT, z_ltF, z_leT, z_leF, z_eqF, z_b_0, z_b_1, ↓reduceIte, eq_self, not_true_eq_false, not_false_eq_true, and_true, true_and, and_false, false_and, Nat.add_zero, Nat.zero_add]
          unfold u_op
          by_cases hu : u_ur I i = true <;> simp (disch := omega) only [hu, or_true, true_or, or_false, false_or, z_b_T, z_b_F, Bool.false_eq_true, Classical.not_not, decide_eq_true_eq, z_sq, Option.bind_some, z_lits, z_n_add, z_n_mul, z_lt, z_le, z_eq, z_ne1, z_1ne, z_lt1, z_1lt, z_ltT, z_ltF, z_leT, z_leF, z_eqF, z_b_0, z_b_1, ↓reduceIte, eq_self, not_true_eq_false, not_false_eq_true, and_true, true_and, and_false, false_and, Nat.add_zero, Nat.zero_add])
        (by
          intro m
          simp (disch := omega) only [f_Rs_bounds_L23, or_true, true_or, or_false, false_or, z_b_T, z_b_F, Bool.false_eq_true, Classical.not_not, decide_eq_true_eq, z_sq, Option.bind_some, z_lits, z_n_add, z_n_mul, z_lt, z_le, z_eq, z_ne1, z_1ne, z_lt1, z_1lt, z_ltT, z_ltF, z_leT, z_leF, z_eqF, z_b_0, z_b_1, ↓reduceIte, eq_self, not_true_eq_false, not_false_eq_true, and_true, true_and, and_false, false_and, Nat.add_zero, Nat.zero_add]
          rfl)
      simp only [z_sum_0] at h
      exact h
    have b0 := u_open_le B
    have b1 := z_pick_le B (z_n 0) (z_n 0) 0 0
    have b2 := z_alln_le B (z_n 0) (z_n 0) 0
    have hA : z_pick I J (z_n 0) (z_n 0) 0 0 + (if 1 < x then u_open I else 0) ≤ 1000 := by split <;> omega
    have hd : (z_n x - z_n x / z_n 2 * z_n 2) = z_n (x % 2) := by
      rw [z_div (by omega) (by omega), z_n_mul, z_n_sub (by omega)]
      congr 1; omega
    have hw : z_n (x % 2) = z_n 0 ∨ z_n (x % 2) = z_n 1 := by
      have : x % 2 = 0 ∨ x % 2 = 1 := by omega
      rcases this with e | e <;> rw [e] <;> simp
    obtain ⟨r, S2, I2, J2, P2, n2, k1, k2, k3, k4⟩ := C_ratio (S := S') (I := I') (J := J') (P := P') (n := (n.1 + 2, n.2 + 16)) (A := (z_pick I J (z_n 0) (z_n 0) 0 0 + (if 1 < x then u_open I else 0) : Nat)) (b := z_alln I J (z_n 0) (z_n 0) 0 + u_open I) (what := z_n (x % 2)) (by omega) (by omega) (by simp; omega)
    have g := h2.trans (by simp) k3
    have m' : z_mf I2 J2 (z_up I2 83 0 (z_n 0)) J2 := z_mf.up rfl
    have cg2 := g.cg (K := K) z_keep0 B.2.2.1.2 hn
    have hS2 := hS.mono g hn
    have hP2 := hP.mono g hn
    have co := M_count B hS2 hP2 (cg2.trans m'.cg) (n' := n2) (z_n 0) (z_n 0)
    have ml := mloop S2 (z_up I2 83 0 (z_n 0)) J2 P2 n2 hS2 hP2 (cg2.trans m'.cg)
    refine ⟨z_fr (z_pick I J (z_n 0) (z_n 0) 0 0 + (if 1 < x then u_open I else 0) : Nat) (z_alln I J (z_n 0) (z_n 0) 0 + u_open I) (z_n (x % 2)), S2, I2, J2, P2, n2, _, _, ?_, ?_, g.x0, ⟨by simp at k4; omega, by simp at k4; omega, by simp at k4; omega⟩, m'⟩
    · by_cases hx2 : 1 < x
      · rw [if_pos hx2] at *
        simp (disch := omega) only [f_Rs_bounds, C_in, C_gat8 hS, h1, cloop, h3.r.1, C_picked' h3, C_all' h3, z_cast, hd, k1, k2, or_true, true_or, or_false, false_or, z_b_T, z_b_F, Bool.false_eq_true, Classical.not_not, decide_eq_true_eq, z_sq, Option.bind_some, z_lits, z_n_add, z_n_mul, z_lt, z_le, z_eq, z_ne1, z_1ne, z_lt1, z_1lt, z_ltT, z_ltF, z_leT, z_leF, z_eqF, z_b_0, z_b_1, ↓reduceIte, eq_self, not_true_eq_false, not_false_eq_true, and_true, true_and, and_false, false_and, Nat.add_zero, Nat.zero_add]
      · rw [if_neg hx2] at *
        simp (disch := omega) only [f_Rs_bounds, C_in, C_gat8 hS, h1, cloop, h3.r.1, C_picked' h3, C_all' h3, z_cast, hd, k1, k2, or_true, true_or, or_false, false_or, z_b_T, z_b_F, Bool.false_eq_true, Classical.not_not, decide_eq_true_eq, z_sq, Option.bind_some, z_lits, z_n_add, z_n_mul, z_lt, z_le, z_eq, z_ne1, z_1ne, z_lt1, z_1lt, z_ltT, z_ltF, z_leT, z_leF, z_eqF, z_b_0, z_b_1, ↓reduceIte, eq_self, not_true_eq_false, not_false_eq_true, and_true, true_and, and_false, false_and, Nat.add_zero, Nat.zero_add]
        rw [Nat.add_zero] at k1 k2
        simp (disch := omega) only [k1, k2, or_true, true_or, or_false, false_or, z_b_T, z_b_F, Bool.false_eq_true, Classical.not_not, decide_eq_true_eq, z_sq, Option.bind_some, z_lits, z_n_add, z_n_mul, z_lt, z_le, z_eq, z_ne1, z_1ne, z_lt1, z_1lt, z_ltT, z_ltF, z_leT, z_leF, z_eqF, z_b_0, z_b_1, ↓reduceIte, eq_self, not_true_eq_false, not_false_eq_true, and_true, true_and, and_false, false_and, Nat.add_zero, Nat.zero_add]
    · by_cases h0 : z_alln I J (z_n 0) (z_n 0) 0 + u_open I = 0
      · have h0' : z_co I J (z_n 0) (z_n 0) (-z_n 1) (z_n 31) (z_n 2) + u_open I = 0 := h0
        simp (disch := omega) only [f_Mo_bounds, M_thr hS2, z_ob (s_83 hS2), ml, M_win, co, h0', or_true, true_or, or_false, false_or, z_b_T, z_b_F, Bool.false_eq_true, Classical.not_not, decide_eq_true_eq, z_sq, Option.bind_some, z_lits, z_n_add, z_n_mul, z_lt, z_le, z_eq, z_ne1, z_1ne, z_lt1, z_1lt, z_ltT, z_ltF, z_leT, z_leF, z_eqF, z_b_0, z_b_1, ↓reduceIte, eq_self, not_true_eq_false, not_false_eq_true, and_true, true_and, and_false, false_and, Nat.add_zero, Nat.zero_add]
        unfold z_fr
        rw [if_pos h0]
      · have e := M_low (σ := z_h S2 (z_up I2 83 0 (z_n 0)) J2 P2 n2) (A := (z_pick I J (z_n 0) (z_n 0) 0 0 + (if 1 < x then u_open I else 0) : Nat)) (b := z_alln I J (z_n 0) (z_n 0) 0 + u_open I) (what := z_n (x % 2)) (by omega) (by omega) h0 hw
        have e1 : z_hw 0 = 1 := rfl
        simp only [z_pick, z_alln, Nat.sub_zero, e1] at e b1 b2 h0 ⊢
        by_cases hx2 : 1 < x
        · rw [if_pos hx2] at *
          simp (disch := omega) only [f_Mo_bounds, M_thr hS2, z_ob (s_83 hS2), ml, M_win, co, h0, hx2, z_cast, hd, e, or_true, true_or, or_false, false_or, z_b_T, z_b_F, Bool.false_eq_true, Classical.not_not, decide_eq_true_eq, z_sq, Option.bind_some, z_lits, z_n_add, z_n_mul, z_lt, z_le, z_eq, z_ne1, z_1ne, z_lt1, z_1lt, z_ltT, z_ltF, z_leT, z_leF, z_eqF, z_b_0, z_b_1, ↓reduceIte, eq_self, not_true_eq_false, not_false_eq_true, and_true, true_and, and_false, false_and, Nat.add_zero, Nat.zero_add]
        · rw [if_neg hx2] at *
          simp (disch := omega) only [f_Mo_bounds, M_thr hS2, z_ob (s_83 hS2), ml, M_win, co, h0, hx2, z_cast, hd, or_true, true_or, or_false, false_or, z_b_T, z_b_F, Bool.false_eq_true, Classical.not_not, decide_eq_true_eq, z_sq, Option.bind_some, z_lits, z_n_add, z_n_mul, z_lt, z_le, z_eq, z_ne1, z_1ne, z_lt1, z_1lt, z_ltT, z_ltF, z_leT, z_leF, z_eqF, z_b_0, z_b_1, ↓reduceIte, eq_self, not_true_eq_false, not_false_eq_true, and_true, true_and, and_false, false_and, Nat.add_zero, Nat.zero_add]
          rw [Nat.add_zero] at e
          rw [e]
  · refine z_pr.same (r := -z_n 1) ?_ ?_ m0
    · simp (disch := omega) only [f_Rs_bounds, C_out ho, or_true, true_or, or_false, false_or, z_b_T, z_b_F, Bool.false_eq_true, Classical.not_not, decide_eq_true_eq, z_sq, Option.bind_some, z_lits, z_n_add, z_n_mul, z_lt, z_le, z_eq, z_ne1, z_1ne, z_lt1, z_1lt, z_ltT, z_ltF, z_leT, z_leF, z_eqF, z_b_0, z_b_1, ↓reduceIte, eq_self, not_true_eq_false, not_false_eq_true, and_true, true_and, and_false, false_and, Nat.add_zero, Nat.zero_add]
    · have co := M_count B hS hP m0.cg (n' := n) (z_n 0) (z_n 0)
      simp (disch := omega) only [f_Mo_bounds, M_thr hS, z_ob (s_83 hS), mloop _ _ _ _ _ hS hP m0.cg, M_wout ho, co, or_true, true_or, or_false, false_or, z_b_T, z_b_F, Bool.false_eq_true, Classical.not_not, decide_eq_true_eq, z_sq, Option.bind_some, z_lits, z_n_add, z_n_mul, z_lt, z_le, z_eq, z_ne1, z_1ne, z_lt1, z_1lt, z_ltT, z_ltF, z_leT, z_leF, z_eqF, z_b_0, z_b_1, ↓reduceIte, eq_self, not_true_eq_false, not_false_eq_true, and_true, true_and, and_false, false_and, Nat.add_zero, Nat.zero_add]
end
