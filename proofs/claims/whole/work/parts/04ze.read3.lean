/-! READINGS: the reference's, and the pairs. -/
section
variable {S : z_SH} {I : z_MI} {J : z_MJ} {P : z_MP} {K : Nat → Bool} {n : Nat × Nat}
/-- the reference's rows -/
def r_mm (I1 : z_MI) (I0 : z_MI) (J0 : z_MJ) (k : Nat) : z_MI := z_up (z_ri (z_ri I1 123 (u_wr (r_va I0 J0) (r_ab I0 J0) (I1 123) k)) 124 (u_wr (r_va I0 J0) (r_bl I0 J0) (I1 124) k)) 83 58 (z_n (u_rc (r_va I0 J0) k))
theorem r_mm_mf (I1 : z_MI) (J1 : z_MJ) (I0 : z_MI) (J0 : z_MJ) (k : Nat) : z_mf I1 J1 (r_mm I1 I0 J0 k) J1 := (z_mf.ri rfl (by decide)).trans ((z_mf.ri rfl (by decide)).trans (z_mf.up rfl))
theorem r_mm_up (I1 I0 : z_MI) (J0 : z_MJ) {k : Nat} (hv : r_va I0 J0 k = true) : z_up (z_up (z_up (r_mm I1 I0 J0 k) 123 (u_rc (r_va I0 J0) k) (z_n (r_ab I0 J0 k))) 124 (u_rc (r_va I0 J0) k) (z_n (r_bl I0 J0 k))) 83 58 (z_n (u_rc (r_va I0 J0) k + 1)) = r_mm I1 I0 J0 (k + 1) := by
  have e0 : u_rc (r_va I0 J0) (k + 1) = u_rc (r_va I0 J0) k + 1 := by rw [u_rc, if_pos hv]
  have e1 := u_wr_up I1 123 (r_va I0 J0) (r_ab I0 J0) (I1 123) hv
  have e2 := u_wr_up I1 124 (r_va I0 J0) (r_bl I0 J0) (I1 124) hv
  unfold r_mm
  rw [e0]
  funext b j
  by_cases h83 : b = 83
  · subst h83
    by_cases hj : j = 58
    · subst hj; rw [z_up_s, z_up_s]
    · rw [z_up_i hj, z_up_i hj, z_up_a (by omega), z_up_a (by omega), z_up_i hj, z_ri_a (by omega), z_ri_a (by omega), z_ri_a (by omega), z_ri_a (by omega)]
  · rw [z_up_a h83, z_up_a h83]
    by_cases h124 : b = 124
    · subst h124
      have e3 := congrFun (congrFun e2 124) j
      unfold z_up z_ri at e3 ⊢
      simpa using e3
    · rw [z_up_a h124, z_ri_a h124]
      by_cases h123 : b = 123
      · subst h123
        have e3 := congrFun (congrFun e1 123) j
        unfold z_up z_ri at e3 ⊢
        simpa using e3
      · rw [z_up_a h123, z_up_a h83, z_ri_a h124, z_ri_a h123, z_ri_a h123]
set_option maxRecDepth 100000 in
set_option maxHeartbeats 4000000 in
theorem M_lays (B : z_B S I J P K n.1) {S' : z_SH} {I1 : z_MI} {J1 : z_MJ} {P' : z_MP} {n' : Nat × Nat} (hS' : z_St S') (hP' : z_Pt P') (c : z_cg I J I1 J1) : f_Mo_lays 83 (z_h S' I1 J1 P' n') = some ((), z_h S' (r_mm I1 I J 225) J1 P' n') := by
  have w58 : ∀ I J P n v, q_sf (z_h S' I J P n) 12 83 58 (.int v) = some (z_h S' (z_up I 83 58 v) J P n) := fun _ _ _ _ _ => z_sfi (s_83 hS') (by decide) rfl
  have e := z_run (fun m k => f_Mo_lays_L7 83 m (z_n k) (z_h S' (r_mm I1 I J k) J1 P' n')) 225 (r := some ((), z_h S' (r_mm I1 I J 225) J1 P' n')) (by omega)
    (by
      intro m k hk
      have cg := c.trans (r_mm_mf I1 J1 I J k).cg
      have co := M_count B hS' hP' cg (n' := n') (z_n 0) (z_n 0)
      have rcl := u_rc_le (r_va I J) k
      have d1 : k - k / 25 * 25 = k % 25 := by omega
      have d2 : k / 25 - k / 25 / 3 * 3 = k / 25 % 3 := by omega
      have so := M_sorts (x := k / 75) (σ := z_h S' (r_mm I1 I J k) J1 P' n') (by omega)
      have rr : ∀ k, r_mm I1 I J k 83 58 = z_n (u_rc (r_va I J) k) := fun k => z_up_s _ _ _ _
      have r1 : z_up (r_mm I1 I J k) 123 (u_rc (r_va I J) k) (z_n (r_ab I J k)) 83 58 = z_n (u_rc (r_va I J) k) := by rw [z_up_a (by omega)]; exact rr k
      have r2 : z_up (z_up (r_mm I1 I J k) 123 (u_rc (r_va I J) k) (z_n (r_ab I J k))) 124 (u_rc (r_va I J) k) (z_n (r_bl I J k)) 83 58 = z_n (u_rc (r_va I J) k) := by rw [z_up_a (by omega)]; exact r1
      have ewo : z_n (k % 25) - z_n 1 = r_wo k := by
        unfold r_wo
        by_cases h0 : k % 25 = 0
        · rw [if_pos h0, h0]; decide
        · rw [if_neg h0, z_n_sub (by omega)]
      have b1 : z_co I J (z_n 0) (z_n 0) (r_wo k) (z_n 31) (z_n (2 - k / 25 % 3)) = r_bl I J k := rfl
      have b2 : z_co I J (z_n 0) (z_n 0) (r_wo k) (z_n (z_hw (k / 75))) (z_n (2 - k / 25 % 3)) = r_ab I J k := rfl
      have bl := r_bl_le B k
      have stay : ¬ r_va I J k = true → r_mm I1 I J (k + 1) = r_mm I1 I J k := by
        intro hv
        unfold r_mm
        rw [u_rc, u_wr, u_wr, if_neg hv, if_neg hv, if_neg hv, Nat.add_zero]
      by_cases h0 : k % 25 = 0
      · have q0 : (-z_n 1 < z_n 0) = True := by decide
        have ewo0 : r_wo k = -z_n 1 := by unfold r_wo; rw [if_pos h0]
        have hva : r_va I J k = !decide (r_bl I J k = 0) := by
          unfold r_va
          rw [decide_eq_true h0]; simp
        by_cases hb : r_bl I J k = 0
        · have hv : ¬ r_va I J k = true := by rw [hva, decide_eq_true hb]; simp
          have st := stay hv
          rw [ewo0] at ewo b1 b2
          simp (disch := omega) only [f_Mo_lays_L7, z_div, z_n_sub, d1, ewo, q0, z_ob (s_83 hS'), d2, co, b1, hb, st, or_true, true_or, or_false, false_or, z_b_T, z_b_F, Bool.false_eq_true, Classical.not_not, decide_eq_true_eq, z_sq, Option.bind_some, z_lits, z_n_add, z_n_mul, z_lt, z_le, z_eq, z_ne1, z_1ne, z_lt1, z_1lt, z_ltT, z_ltF, z_leT, z_leF, z_eqF, z_b_0, z_b_1, ↓reduceIte, eq_self, not_true_eq_false, not_false_eq_true, and_true, true_and, and_false, false_and, Nat.add_zero, Nat.zero_add]
        · have hv : r_va I J k = true := by rw [hva, decide_eq_false hb]; rfl
          have u := r_mm_up I1 I J hv
          rw [ewo0] at ewo b1 b2
          simp (disch := omega) only [f_Mo_lays_L7, z_div, z_n_sub, d1, ewo, q0, z_ob (s_83 hS'), d2, co, b1, hb, z_Mr hS' hP', rr, so, b2, z_Mw hS', r1, r2, u, or_true, true_or, or_false, false_or, z_b_T, z_b_F, Bool.false_eq_true, Classical.not_not, decide_eq_true_eq, z_sq, Option.bind_some, z_lits, z_n_add, z_n_mul, z_lt, z_le, z_eq, z_ne1, z_1ne, z_lt1, z_1lt, z_ltT, z_ltF, z_leT, z_leF, z_eqF, z_b_0, z_b_1, ↓reduceIte, eq_self, not_true_eq_false, not_false_eq_true, and_true, true_and, and_false, false_and, Nat.add_zero, Nat.zero_add]
      · have ewo1 : r_wo k = z_n (k % 25 - 1) := by unfold r_wo; rw [if_neg h0]
        have th := M_isThere (n := n') (I := r_mm I1 I J k) (J := J1) hS' hP' (s := k % 25 - 1) (by omega)
        rw [z_th_c cg] at th
        rw [ewo1] at ewo b1 b2
        by_cases ht : z_th I (k % 25 - 1) = true
        · have hva : r_va I J k = !decide (r_bl I J k = 0) := by
            unfold r_va
            rw [ht]; simp
          by_cases hb : r_bl I J k = 0
          · have hv : ¬ r_va I J k = true := by rw [hva, decide_eq_true hb]; simp
            have st := stay hv
            simp (disch := omega) only [f_Mo_lays_L7, z_div, z_n_sub, d1, ewo, z_ob (s_83 hS'), th, ht, d2, co, b1, hb, st, or_true, true_or, or_false, false_or, z_b_T, z_b_F, Bool.false_eq_true, Classical.not_not, decide_eq_true_eq, z_sq, Option.bind_some, z_lits, z_n_add, z_n_mul, z_lt, z_le, z_eq, z_ne1, z_1ne, z_lt1, z_1lt, z_ltT, z_ltF, z_leT, z_leF, z_eqF, z_b_0, z_b_1, ↓reduceIte, eq_self, not_true_eq_false, not_false_eq_true, and_true, true_and, and_false, false_and, Nat.add_zero, Nat.zero_add]
          · have hv : r_va I J k = true := by rw [hva, decide_eq_false hb]; rfl
            have u := r_mm_up I1 I J hv
            simp (disch := omega) only [f_Mo_lays_L7, z_div, z_n_sub, d1, ewo, z_ob (s_83 hS'), th, ht, d2, co, b1, hb, z_Mr hS' hP', rr, so, b2, z_Mw hS', r1, r2, u, or_true, true_or, or_false, false_or, z_b_T, z_b_F, Bool.false_eq_true, Classical.not_not, decide_eq_true_eq, z_sq, Option.bind_some, z_lits, z_n_add, z_n_mul, z_lt, z_le, z_eq, z_ne1, z_1ne, z_lt1, z_1lt, z_ltT, z_ltF, z_leT, z_leF, z_eqF, z_b_0, z_b_1, ↓reduceIte, eq_self, not_true_eq_false, not_false_eq_true, and_true, true_and, and_false, false_and, Nat.add_zero, Nat.zero_add]
        · have hv : ¬ r_va I J k = true := by
            unfold r_va
            rw [decide_eq_false h0]
            simp only [Bool.not_eq_true] at ht
            rw [ht]; simp
          have st := stay hv
          simp (disch := omega) only [f_Mo_lays_L7, z_div, z_n_sub, d1, ewo, z_ob (s_83 hS'), th, ht, st, or_true, true_or, or_false, false_or, z_b_T, z_b_F, Bool.false_eq_true, Classical.not_not, decide_eq_true_eq, z_sq, Option.bind_some, z_lits, z_n_add, z_n_mul, z_lt, z_le, z_eq, z_ne1, z_1ne, z_lt1, z_1lt, z_ltT, z_ltF, z_leT, z_leF, z_eqF, z_b_0, z_b_1, ↓reduceIte, eq_self, not_true_eq_false, not_false_eq_true, and_true, true_and, and_false, false_and, Nat.add_zero, Nat.zero_add])
    (by
      intro m
      simp (disch := omega) only [f_Mo_lays_L7, or_true, true_or, or_false, false_or, z_b_T, z_b_F, Bool.false_eq_true, Classical.not_not, decide_eq_true_eq, z_sq, Option.bind_some, z_lits, z_n_add, z_n_mul, z_lt, z_le, z_eq, z_ne1, z_1ne, z_lt1, z_1lt, z_ltT, z_ltF, z_leT, z_leF, z_eqF, z_b_0, z_b_1, ↓reduceIte, eq_self, not_true_eq_false, not_false_eq_true, and_true, true_and, and_false, false_and, Nat.add_zero, Nat.zero_add])
  have i0 : r_mm I1 I J 0 = z_up I1 83 58 (z_n 0) := by
    unfold r_mm
    show z_up (z_ri (z_ri I1 123 (I1 123)) 124 (I1 124)) 83 58 _ = _
    congr 1
    funext b j
    unfold z_ri
    split
    · rename_i h; rw [h]
    · split
      · rename_i h; rw [h]
      · rfl
  rw [i0] at e
  unfold f_Mo_lays
  rw [w58, Option.bind_some]
  show q_sq (f_Mo_lays_L7 83 q_FU (z_n 0) (z_h S' (z_up I1 83 58 (z_n 0)) J1 P' n')) _ = _
  rw [e, z_sq]
/-- READINGS by their places -/
def r_n (I : z_MI) (J : z_MJ) : Nat := u_rc (r_va I J) 225
def r_a (I : z_MI) (J : z_MJ) (j : Nat) : Nat := u_vl (r_va I J) (r_ab I J) 225 j
def r_b (I : z_MI) (J : z_MJ) (j : Nat) : Nat := u_vl (r_va I J) (r_bl I J) 225 j
theorem r_facts (B : z_B S I J P K n.1) : r_n I J ≤ 225 ∧ (∀ j, r_a I J j ≤ 288) ∧ (∀ j, r_b I J j ≤ 288) ∧ ∀ j, j < r_n I J → 0 < r_b I J j :=
  ⟨u_rc_le _ _, u_vl_le (fun k => r_ab_le B k) 225, u_vl_le (fun k => r_bl_le B k) 225, u_vl_pos (fun k h => r_va_pos I J k h) 225⟩
theorem r_cm_v (I' I : z_MI) (J : z_MJ) {j : Nat} (hj : j < r_n I J) : r_cm I' I J 225 41 j = z_n (r_a I J j) ∧ r_cm I' I J 225 42 j = z_n (r_b I J j) := by
  unfold r_cm
  refine ⟨?_, ?_⟩
  · rw [z_ri_a (by omega), z_ri_s]; exact u_wr_vl _ _ _ _ _ hj
  · rw [z_ri_s]; exact u_wr_vl _ _ _ _ _ hj
theorem r_mm_v (I' I : z_MI) (J : z_MJ) {j : Nat} (hj : j < r_n I J) : r_mm I' I J 225 123 j = z_n (r_a I J j) ∧ r_mm I' I J 225 124 j = z_n (r_b I J j) := by
  unfold r_mm
  refine ⟨?_, ?_⟩
  · rw [z_up_a (by omega), z_ri_a (by omega), z_ri_s]; exact u_wr_vl _ _ _ _ _ hj
  · rw [z_up_a (by omega), z_ri_s]; exact u_wr_vl _ _ _ _ _ hj
-- both sides found
theorem X_found (B : z_B S I J P K n.1) : ∃ S' I' J' P', f_Rs_findReadings 8 (z_h S I J P n) = some (z_n (r_n I J), z_h S' I' J' P' (n.1 + 2, n.2 + 16)) ∧ z_ag n.1 (z_x0 K) S I J P S' I' J' P' ∧ z_St S' ∧ z_Pt P' ∧ (∀ j, j < r_n I J → I' 41 j = z_n (r_a I J j) ∧ I' 42 j = z_n (r_b I J j)) ∧
    ∃ I2, (∀ n', f_Mo_lays 83 (z_h S' (z_up I' 83 0 (z_n 0)) J' P' n') = some ((), z_h S' I2 J' P' n')) ∧ z_mf I' J' I2 J' ∧ I2 83 58 = z_n (r_n I J) ∧ ∀ j, j < r_n I J → I2 123 j = z_n (r_a I J j) ∧ I2 124 j = z_n (r_b I J j) := by
  obtain ⟨S', I', J', P', h1, g⟩ := C_find B
  have hS := B.qS.mono g B.qn
  have hP := B.qP.mono g B.qn
  have cg := g.cg (K := K) (z_keepx K) B.2.2.1.2 B.qn
  have m' : z_mf (r_cm I' I J 225) J' (z_up (r_cm I' I J 225) 83 0 (z_n 0)) J' := z_mf.up rfl
  exact ⟨S', r_cm I' I J 225, J', P', h1, g, hS, hP, fun j hj => r_cm_v I' I J hj, r_mm (z_up (r_cm I' I J 225) 83 0 (z_n 0)) I J 225, fun n' => M_lays B hS hP (cg.trans m'.cg), m'.trans (r_mm_mf _ _ _ _ _), z_up_s _ _ _ _, fun j hj => r_mm_v _ I J hj⟩
set_option maxRecDepth 100000 in
set_option maxHeartbeats 4000000 in
theorem X_reading (B : z_B S I J P K n.1) (i d : Int32) : z_pr (f_Rs_reading 8 i d) (f_Mo_reading 83 i d) S I J P K n := by
  have hS0 := B.qS
  have hn := B.qn
  obtain ⟨S', I', J', P', h1, g, hS, hP, v, I2, h2, m, h58, w⟩ := X_found B
  obtain ⟨f1, f2, f3, f4⟩ := r_facts B
  have e11 : ∀ I J n, q_gr (q_gf (z_h S' I J P' n) 0 8 11) = some 41 := fun _ _ _ => z_gr (s_8 hS) rfl (p_8_11 hP)
  have e12 : ∀ I J n, q_gr (q_gf (z_h S' I J P' n) 0 8 12) = some 42 := fun _ _ _ => z_gr (s_8 hS) rfl (p_8_12 hP)
  have out : (i < z_n 0) = True ∨ ((i < z_n 0) = False ∧ (i < z_n (r_n I J)) = False ∧ (z_n (r_n I J) - z_n 1 < i) = True) → z_pr (f_Rs_reading 8 i d) (f_Mo_reading 83 i d) S I J P K n := by
    intro h
    refine z_pr.mk' (r := -z_n 1) (n' := (n.1 + 2, n.2 + 16)) g ⟨by simp, by simp, by simp⟩ m ?_ ?_
    · rcases h with h | ⟨h, h', h''⟩
      · simp (disch := omega) only [f_Rs_reading, C_gat8 hS0, h1, C_isFrom, h, or_true, true_or, or_false, false_or, z_b_T, z_b_F, Bool.false_eq_true, Classical.not_not, decide_eq_true_eq, z_sq, Option.bind_some, z_lits, z_n_add, z_n_mul, z_lt, z_le, z_eq, z_ne1, z_1ne, z_lt1, z_1lt, z_ltT, z_ltF, z_leT, z_leF, z_eqF, z_b_0, z_b_1, ↓reduceIte, eq_self, not_true_eq_false, not_false_eq_true, and_true, true_and, and_false, false_and, Nat.add_zero, Nat.zero_add]
      · simp (disch := omega) only [f_Rs_reading, C_gat8 hS0, h1, C_isFrom, h, h'', or_true, true_or, or_false, false_or, z_b_T, z_b_F, Bool.false_eq_true, Classical.not_not, decide_eq_true_eq, z_sq, Option.bind_some, z_lits, z_n_add, z_n_mul, z_lt, z_le, z_eq, z_ne1, z_1ne, z_lt1, z_1lt, z_ltT, z_ltF, z_leT, z_leF, z_eqF, z_b_0, z_b_1, ↓reduceIte, eq_self, not_true_eq_false, not_false_eq_true, and_true, true_and, and_false, false_and, Nat.add_zero, Nat.zero_add]
    · rcases h with h | ⟨h, h', h''⟩
      · simp (disch := omega) only [f_Mo_reading, M_thr hS, z_ob (s_83 hS), h2, h, or_true, true_or, or_false, false_or, z_b_T, z_b_F, Bool.false_eq_true, Classical.not_not, decide_eq_true_eq, z_sq, Option.bind_some, z_lits, z_n_add, z_n_mul, z_lt, z_le, z_eq, z_ne1, z_1ne, z_lt1, z_1lt, z_ltT, z_ltF, z_leT, z_leF, z_eqF, z_b_0, z_b_1, ↓reduceIte, eq_self, not_true_eq_false, not_false_eq_true, and_true, true_and, and_false, false_and, Nat.add_zero, Nat.zero_add]
      · simp (disch := omega) only [f_Mo_reading, M_thr hS, z_ob (s_83 hS), h2, h, z_Mr hS hP, h58, h', or_true, true_or, or_false, false_or, z_b_T, z_b_F, Bool.false_eq_true, Classical.not_not, decide_eq_true_eq, z_sq, Option.bind_some, z_lits, z_n_add, z_n_mul, z_lt, z_le, z_eq, z_ne1, z_1ne, z_lt1, z_1lt, z_ltT, z_ltF, z_leT, z_leF, z_eqF, z_b_0, z_b_1, ↓reduceIte, eq_self, not_true_eq_false, not_false_eq_true, and_true, true_and, and_false, false_and, Nat.add_zero, Nat.zero_add]
  rcases z_in i 1000 (by omega) with ⟨x, hx, rfl⟩ | ho
  · by_cases hxn : x < r_n I J
    · obtain ⟨v1, v2⟩ := v x hxn
      obtain ⟨w1, w2⟩ := w x hxn
      have p := f4 x hxn
      have a1 := f2 x
      have a2 := f3 x
      obtain ⟨r, S2, I3, J2, P2, n2, k1, k2, k3, k4⟩ := C_ratio (S := S') (I := I') (J := J') (P := P') (n := (n.1 + 2, n.2 + 16)) (A := (r_a I J x : Nat)) (b := r_b I J x) (what := d) (by omega) (by omega) (by simp; omega)
      -- the reference's on the heap behind the Ratio: found anew
      have G := g.trans (n' := n.1 + 2) (by omega) (k3.x0 (K := K))
      have hS2 := B.qS.mono G hn
      have hP2 := B.qP.mono G hn
      have cg2 := G.cg (K := K) (z_keepx K) B.2.2.1.2 hn
      have m2 : z_mf I3 J2 (z_up I3 83 0 (z_n 0)) J2 := z_mf.up rfl
      have la := M_lays B hS2 hP2 (cg2.trans m2.cg) (n' := n2)
      obtain ⟨w3, w4⟩ := r_mm_v (z_up I3 83 0 (z_n 0)) I J hxn
      have h58' : r_mm (z_up I3 83 0 (z_n 0)) I J 225 83 58 = z_n (r_n I J) := z_up_s _ _ _ _
      refine z_pr.mk' (r := z_fr (r_a I J x : Nat) (r_b I J x) d) (n' := n2) G ⟨by simp at k4; omega, by simp at k4; omega, by simp at k4; omega⟩ (m2.trans (r_mm_mf _ _ I J 225)) ?_ ?_
      · simp (disch := omega) only [f_Rs_reading, C_gat8 hS0, h1, C_isFrom, z_n_sub, e11, e12, z_Otr hS hP, v1, v2, z_cast, k1, k2, or_true, true_or, or_false, false_or, z_b_T, z_b_F, Bool.false_eq_true, Classical.not_not, decide_eq_true_eq, z_sq, Option.bind_some, z_lits, z_n_add, z_n_mul, z_lt, z_le, z_eq, z_ne1, z_1ne, z_lt1, z_1lt, z_ltT, z_ltF, z_leT, z_leF, z_eqF, z_b_0, z_b_1, ↓reduceIte, eq_self, not_true_eq_false, not_false_eq_true, and_true, true_and, and_false, false_and, Nat.add_zero, Nat.zero_add]
      · rcases z_d1 (d := d) with hd | hd
        · have e := M_low (σ := z_h S2 (r_mm (z_up I3 83 0 (z_n 0)) I J 225) J2 P2 n2) (A := (r_a I J x : Nat)) (b := r_b I J x) (what := d) (by omega) (by omega) (by omega) hd
          simp (disch := omega) only [f_Mo_reading, M_thr hS2, z_ob (s_83 hS2), la, z_Mr hS2 hP2, h58', w3, w4, M_wi1 hd, z_cast, e, or_true, true_or, or_false, false_or, z_b_T, z_b_F, Bool.false_eq_true, Classical.not_not, decide_eq_true_eq, z_sq, Option.bind_some, z_lits, z_n_add, z_n_mul, z_lt, z_le, z_eq, z_ne1, z_1ne, z_lt1, z_1lt, z_ltT, z_ltF, z_leT, z_leF, z_eqF, z_b_0, z_b_1, ↓reduceIte, eq_self, not_true_eq_false, not_false_eq_true, and_true, true_and, and_false, false_and, Nat.add_zero, Nat.zero_add]
        · rw [z_fr_o hd]
          simp (disch := omega) only [f_Mo_reading, M_thr hS2, z_ob (s_83 hS2), la, z_Mr hS2 hP2, h58', M_wout hd, or_true, true_or, or_false, false_or, z_b_T, z_b_F, Bool.false_eq_true, Classical.not_not, decide_eq_true_eq, z_sq, Option.bind_some, z_lits, z_n_add, z_n_mul, z_lt, z_le, z_eq, z_ne1, z_1ne, z_lt1, z_1lt, z_ltT, z_ltF, z_leT, z_leF, z_eqF, z_b_0, z_b_1, ↓reduceIte, eq_self, not_true_eq_false, not_false_eq_true, and_true, true_and, and_false, false_and, Nat.add_zero, Nat.zero_add]
    · refine out (Or.inr ⟨?_, ?_, ?_⟩)
      · rw [z_lt (by omega) (by omega)]; exact eq_false (by omega)
      · rw [z_lt (by omega) (by omega)]; exact eq_false (by omega)
      · by_cases h0 : r_n I J = 0
        · rw [h0, show z_n 0 - z_n 1 = -z_n 1 by decide, z_1lt (by omega)]
        · rw [z_n_sub (by omega), z_lt (by omega) (by omega)]; exact eq_true (by omega)
  · rcases z_oL ho with h | ⟨h, h'⟩
    · exact out (Or.inl h)
    · have h3 := of_eq_true h'
      rw [Int32.lt_iff_toInt_lt, z_n_int (by omega)] at h3
      refine out (Or.inr ⟨h, ?_, ?_⟩)
      · refine eq_false (fun q => ?_)
        rw [Int32.lt_iff_toInt_lt, z_n_int (by omega)] at q
        omega
      · refine eq_true ?_
        by_cases h0 : r_n I J = 0
        · rw [h0, show z_n 0 - z_n 1 = -z_n 1 by decide, Int32.lt_iff_toInt_lt, z_m1]; omega
        · rw [z_n_sub (by omega), Int32.lt_iff_toInt_lt, z_n_int (by omega)]; omega
end
