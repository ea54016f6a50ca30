/-! READINGS found: the class's, the reference's. -/
section
variable {S : z_SH} {I : z_MI} {J : z_MJ} {P : z_MP} {K : Nat → Bool} {n : Nat × Nat}
theorem r_k (h l s : Nat) (hh : h ≤ 2) (hl : l ≤ 2) (hs : s < 24) : (75 * h + 25 * l + 1 + s) % 25 = s + 1 ∧ (75 * h + 25 * l + 1 + s) / 25 % 3 = l ∧ (75 * h + 25 * l + 1 + s) / 75 = h := by omega
theorem r_k0 (h l : Nat) (hh : h ≤ 2) (hl : l ≤ 2) : (75 * h + 25 * l) % 25 = 0 ∧ (75 * h + 25 * l) / 25 % 3 = l ∧ (75 * h + 25 * l) / 75 = h := by omega
theorem r_wo_s {h l s : Nat} (hh : h ≤ 2) (hl : l ≤ 2) (hs : s < 24) : r_wo (75 * h + 25 * l + 1 + s) = z_n s := by
  unfold r_wo
  rw [(r_k h l s hh hl hs).1, if_neg (by omega), Nat.add_sub_cancel]
theorem r_wo_0 {h l : Nat} (hh : h ≤ 2) (hl : l ≤ 2) : r_wo (75 * h + 25 * l) = -z_n 1 := by
  unfold r_wo
  rw [(r_k0 h l hh hl).1, if_pos rfl]
set_option maxRecDepth 100000 in
set_option maxHeartbeats 4000000 in
theorem C_readL (B : z_B S I J P K n.1) {I0 : z_MI} {J0 : z_MJ} (c0 : z_cg I0 J0 I J) {t h l : Nat} (hh : h ≤ 2) (hl : l ≤ 2) : f_Rs_findReadings_L55 8 t (z_n h) (z_n l) (z_n (z_pick I0 J0 (z_n 0) (z_n 0) l h)) (z_n (z_alln I0 J0 (z_n 0) (z_n 0) l)) q_FU (z_n (u_rc (r_va I0 J0) (75 * h + 25 * l + 1))) (z_n 0) (z_h S (r_cm I I0 J0 (75 * h + 25 * l + 1)) J P n) = some (z_n (u_rc (r_va I0 J0) (75 * h + 25 * l + 25)), z_h S (r_cm I I0 J0 (75 * h + 25 * l + 25)) J P n) := by
  have hn := B.qn
  have hL0 : z_lL I0 := z_lL_c c0.symm B.qL
  have e := z_run (fun m s => f_Rs_findReadings_L55 8 t (z_n h) (z_n l) (z_n (z_pick I0 J0 (z_n 0) (z_n 0) l h)) (z_n (z_alln I0 J0 (z_n 0) (z_n 0) l)) m (z_n (u_rc (r_va I0 J0) (75 * h + 25 * l + 1 + s))) (z_n s) (z_h S (r_cm I I0 J0 (75 * h + 25 * l + 1 + s)) J P n)) 24 (r := some (z_n (u_rc (r_va I0 J0) (75 * h + 25 * l + 1 + 24)), z_h S (r_cm I I0 J0 (75 * h + 25 * l + 1 + 24)) J P n)) (by omega)
    (by
      intro m s hs
      have g := r_cm_ag n.1 S I J P K I0 J0 (75 * h + 25 * l + 1 + s)
      have B2 : z_B S (r_cm I I0 J0 (75 * h + 25 * l + 1 + s)) J P K n.1 := B.mono (z_keepx K) g (Nat.le_refl _)
      have hS := B2.qS
      have hP := B2.qP
      have cg := g.cg (K := K) (z_keepx K) B.2.2.1.2 hn
      have e8 : ∀ I J n, q_gr (q_gf (z_h S I J P n) 0 8 3) = some 13 := fun _ _ _ => z_gr (s_8 hS) rfl (p_8_3 hP)
      have po := C_pageOf (n := n) (I := r_cm I I0 J0 (75 * h + 25 * l + 1 + s)) (J := J) hS hP hs
      obtain ⟨k1, k2, k3⟩ := r_k h l s hh hl hs
      have rwo := r_wo_s hh hl hs
      have rcl := u_rc_le (r_va I0 J0) (75 * h + 25 * l + 1 + s)
      rcases B.pg hs with ⟨h5, h6⟩ | ⟨h5, p, h6, h7⟩
      · rw [z_th_c c0] at h5
        have hv : ¬ r_va I0 J0 (75 * h + 25 * l + 1 + s) = true := by
          unfold r_va
          rw [k1, decide_eq_false (by omega), Nat.add_sub_cancel, h5]
          simp
        have e1 : u_rc (r_va I0 J0) (75 * h + 25 * l + 1 + (s + 1)) = u_rc (r_va I0 J0) (75 * h + 25 * l + 1 + s) := by
          rw [← Nat.add_assoc, u_rc, if_neg hv, Nat.add_zero]
        have e2 : r_cm I I0 J0 (75 * h + 25 * l + 1 + (s + 1)) = r_cm I I0 J0 (75 * h + 25 * l + 1 + s) := by
          unfold r_cm
          rw [← Nat.add_assoc, u_wr, u_wr, if_neg hv, if_neg hv]
        simp only [e1, e2]
        simp (disch := omega) only [f_Rs_findReadings_L55, e8, z_ob (s_13 hS), po, h6, or_true, true_or, or_false, false_or, z_b_T, z_b_F, Bool.false_eq_true, Classical.not_not, decide_eq_true_eq, z_sq, Option.bind_some, z_lits, z_n_add, z_n_mul, z_lt, z_le, z_eq, z_ne1, z_1ne, z_lt1, z_1lt, z_ltT, z_ltF, z_leT, z_leF, z_eqF, z_b_0, z_b_1, ↓reduceIte, eq_self, not_true_eq_false, not_false_eq_true, and_true, true_and, and_false, false_and, Nat.add_zero, Nat.zero_add]
      · have ht0 := h5
        rw [z_th_c c0] at ht0
        have h7' := h7.mono (z_keepx K) g (Nat.le_refl _)
        rw [z_Ds_c c0] at h7'
        have r3 := z_ps_r h7'.2.1
        have q1 := C_picked (J := J) (n := n) h7'.ty (lv := l) (how := h) hl hh
        have q2 := C_all (J := J) (n := n) h7'.ty (lv := l) hl
        rw [← z_g_pick _ (by omega) hh] at q1
        rw [← z_g_all _ (by omega)] at q2
        have w1 := z_co_wo2 J0 (z_n (z_hw h)) (z_n (2 - l)) hs ht0
        have w2 := z_co_wo2 J0 (z_n 31) (z_n (2 - l)) hs ht0
        have a1 : r_ab I0 J0 (75 * h + 25 * l + 1 + s) = z_co I0 J0 (z_n 0) (z_n 0) (z_n s) (z_n (z_hw h)) (z_n (2 - l)) := by unfold r_ab; rw [rwo, k2, k3]
        have a2 : r_bl I0 J0 (75 * h + 25 * l + 1 + s) = z_co I0 J0 (z_n 0) (z_n 0) (z_n s) (z_n 31) (z_n (2 - l)) := by unfold r_bl; rw [rwo, k2]
        have s1 : z_n (z_pick I0 J0 (z_n 0) (z_n 0) l h) - z_n (z_on2 I0 J0 s (z_n (z_hw h)) (z_n (2 - l))) = z_n (r_ab I0 J0 (75 * h + 25 * l + 1 + s)) := by
          unfold z_pick
          rw [w1, z_n_sub (by omega), Nat.add_sub_cancel, a1]
        have s2 : z_n (z_alln I0 J0 (z_n 0) (z_n 0) l) - z_n (z_on2 I0 J0 s (z_n 31) (z_n (2 - l))) = z_n (r_bl I0 J0 (75 * h + 25 * l + 1 + s)) := by
          unfold z_alln
          rw [w2, z_n_sub (by omega), Nat.add_sub_cancel, a2]
        have hb : r_bl I0 J0 (75 * h + 25 * l + 1 + s) ≤ 288 := z_co_le J0 hL0 _ _ _ _ _
        have hv : r_va I0 J0 (75 * h + 25 * l + 1 + s) = !decide (r_bl I0 J0 (75 * h + 25 * l + 1 + s) = 0) := by
          unfold r_va
          rw [k1, Nat.add_sub_cancel, ht0]
          simp
        have ad := C_addR (I := I) (J := J) (n := n) hS hP I0 J0 (k := 75 * h + 25 * l + 1 + s) (by omega) hb hv
        have ob8 := C_gat8 (I := r_cm I I0 J0 (75 * h + 25 * l + 1 + s)) (J := J) (P := P) (n := n) hS
        unfold z_on2 at s1 s2
        simp (disch := omega) only [f_Rs_findReadings_L55, e8, z_ob (s_13 hS), po, h6, r3, q1, q2, s1, s2, ob8, ad, or_true, true_or, or_false, false_or, z_b_T, z_b_F, Bool.false_eq_true, Classical.not_not, decide_eq_true_eq, z_sq, Option.bind_some, z_lits, z_n_add, z_n_mul, z_lt, z_le, z_eq, z_ne1, z_1ne, z_lt1, z_1lt, z_ltT, z_ltF, z_leT, z_leF, z_eqF, z_b_0, z_b_1, ↓reduceIte, eq_self, not_true_eq_false, not_false_eq_true, and_true, true_and, and_false, false_and, Nat.add_zero, Nat.zero_add]
        rfl)
    (by
      intro m
      simp (disch := omega) only [f_Rs_findReadings_L55, or_true, true_or, or_false, false_or, z_b_T, z_b_F, Bool.false_eq_true, Classical.not_not, decide_eq_true_eq, z_sq, Option.bind_some, z_lits, z_n_add, z_n_mul, z_lt, z_le, z_eq, z_ne1, z_1ne, z_lt1, z_1lt, z_ltT, z_ltF, z_leT, z_leF, z_eqF, z_b_0, z_b_1, ↓reduceIte, eq_self, not_true_eq_false, not_false_eq_true, and_true, true_and, and_false, false_and, Nat.add_zero, Nat.zero_add])
  exact e
set_option maxRecDepth 100000 in
set_option maxHeartbeats 4000000 in
theorem C_find (B : z_B S I J P K n.1) : ∃ S' I' J' P', f_Rs_findReadings 8 (z_h S I J P n) = some (z_n (u_rc (r_va I J) 225), z_h S' (r_cm I' I J 225) J' P' (n.1 + 2, n.2 + 16)) ∧ z_ag n.1 (z_x0 K) S I J P S' (r_cm I' I J 225) J' P' := by
  have hn := B.qn
  have hS := B.qS
  obtain ⟨S', I', J', P', h1, h2, h3, hS', hP', c0⟩ := C_gat B (a := z_n 0) (b := z_n 0) rfl
  have B1 : z_B S' I' J' P' K (n.1 + 2, n.2 + 16).1 := B.mono z_keep0 h2 (by simp)
  have hL0 := B.qL
  have key : ∀ h, h ≤ 2 → f_Rs_findReadings_L19 8 n.1 (z_n h) q_FU (z_n (u_rc (r_va I J) (75 * h))) (z_n 0) (z_h S' (r_cm I' I J (75 * h)) J' P' (n.1 + 2, n.2 + 16)) = some (z_n (u_rc (r_va I J) (75 * h + 75)), z_h S' (r_cm I' I J (75 * h + 75)) J' P' (n.1 + 2, n.2 + 16)) := by
    intro h hh
    have e := z_run (fun m l => f_Rs_findReadings_L19 8 n.1 (z_n h) m (z_n (u_rc (r_va I J) (75 * h + 25 * l))) (z_n l) (z_h S' (r_cm I' I J (75 * h + 25 * l)) J' P' (n.1 + 2, n.2 + 16))) 3 (r := some (z_n (u_rc (r_va I J) (75 * h + 25 * 3)), z_h S' (r_cm I' I J (75 * h + 25 * 3)) J' P' (n.1 + 2, n.2 + 16))) (by omega)
      (by
        intro m l hl
        have g := r_cm_ag (n.1 + 2) S' I' J' P' K I J (75 * h + 25 * l)
        have ty : z_ty S' (r_cm I' I J (75 * h + 25 * l)) P' n.1 (z_ct I J (z_n 0) (z_n 0) 24) := by
          refine h3.mono ⟨rfl, rfl⟩ ⟨rfl, ?_⟩
          unfold r_cm
          rw [z_ri_a (by omega), z_ri_a (by omega)]
        have q1 := C_picked' (J := J') (n := (n.1 + 2, n.2 + 16)) ty (lv := l) (how := h) (by omega) hh
        have q2 := C_all' (J := J') (n := (n.1 + 2, n.2 + 16)) ty (lv := l) (by omega)
        have tob := ty.r.1
        obtain ⟨k1, k2, k3⟩ := r_k0 h l hh (by omega)
        have rwo := r_wo_0 hh (show l ≤ 2 by omega)
        have a1 : r_ab I J (75 * h + 25 * l) = z_pick I J (z_n 0) (z_n 0) l h := by unfold r_ab z_pick; rw [rwo, k2, k3]
        have a2 : r_bl I J (75 * h + 25 * l) = z_alln I J (z_n 0) (z_n 0) l := by unfold r_bl z_alln; rw [rwo, k2]
        have hb : r_bl I J (75 * h + 25 * l) ≤ 288 := z_co_le J hL0 _ _ _ _ _
        have hv : r_va I J (75 * h + 25 * l) = !decide (r_bl I J (75 * h + 25 * l) = 0) := by
          unfold r_va
          rw [decide_eq_true k1]
          simp
        have ad := C_addR (I := I') (J := J') (n := (n.1 + 2, n.2 + 16)) hS' hP' I J (k := 75 * h + 25 * l) (by omega) hb hv
        rw [a1, a2] at ad
        have lp := C_readL (n := (n.1 + 2, n.2 + 16)) (t := n.1) B1 c0 (h := h) (l := l) hh (by omega)
        have ob8 := fun I2 => C_gat8 (I := I2) (J := J') (P := P') (n := (n.1 + 2, n.2 + 16)) hS'
        have e1 : 75 * h + 25 * (l + 1) = 75 * h + 25 * l + 25 := by omega
        simp only [e1]
        simp (disch := omega) only [f_Rs_findReadings_L19, tob, q1, q2, ob8, ad, lp, or_true, true_or, or_false, false_or, z_b_T, z_b_F, Bool.false_eq_true, Classical.not_not, decide_eq_true_eq, z_sq, Option.bind_some, z_lits, z_n_add, z_n_mul, z_lt, z_le, z_eq, z_ne1, z_1ne, z_lt1, z_1lt, z_ltT, z_ltF, z_leT, z_leF, z_eqF, z_b_0, z_b_1, ↓reduceIte, eq_self, not_true_eq_false, not_false_eq_true, and_true, true_and, and_false, false_and, Nat.add_zero, Nat.zero_add])
      (by
        intro m
        simp (disch := omega) only [f_Rs_findReadings_L19, or_true, true_or, or_false, false_or, z_b_T, z_b_F, Bool.false_eq_true, Classical.not_not, decide_eq_true_eq, z_sq, Option.bind_some, z_lits, z_n_add, z_n_mul, z_lt, z_le, z_eq, z_ne1, z_1ne, z_lt1, z_1lt, z_ltT, z_ltF, z_leT, z_leF, z_eqF, z_b_0, z_b_1, ↓reduceIte, eq_self, not_true_eq_false, not_false_eq_true, and_true, true_and, and_false, false_and, Nat.add_zero, Nat.zero_add])
    exact e
  have e := z_run (fun m h => f_Rs_findReadings_L11 8 n.1 m (z_n (u_rc (r_va I J) (75 * h))) (z_n h) (z_h S' (r_cm I' I J (75 * h)) J' P' (n.1 + 2, n.2 + 16))) 3 (r := some (z_n (u_rc (r_va I J) (75 * 3)), z_h S' (r_cm I' I J (75 * 3)) J' P' (n.1 + 2, n.2 + 16))) (by omega)
    (by
      intro m h hh
      have k := key h (by omega)
      have e1 : 75 * (h + 1) = 75 * h + 75 := by omega
      simp only [e1]
      simp (disch := omega) only [f_Rs_findReadings_L11, k, or_true, true_or, or_false, false_or, z_b_T, z_b_F, Bool.false_eq_true, Classical.not_not, decide_eq_true_eq, z_sq, Option.bind_some, z_lits, z_n_add, z_n_mul, z_lt, z_le, z_eq, z_ne1, z_1ne, z_lt1, z_1lt, z_ltT, z_ltF, z_leT, z_leF, z_eqF, z_b_0, z_b_1, ↓reduceIte, eq_self, not_true_eq_false, not_false_eq_true, and_true, true_and, and_false, false_and, Nat.add_zero, Nat.zero_add])
    (by
      intro m
      simp (disch := omega) only [f_Rs_findReadings_L11, or_true, true_or, or_false, false_or, z_b_T, z_b_F, Bool.false_eq_true, Classical.not_not, decide_eq_true_eq, z_sq, Option.bind_some, z_lits, z_n_add, z_n_mul, z_lt, z_le, z_eq, z_ne1, z_1ne, z_lt1, z_1lt, z_ltT, z_ltF, z_leT, z_leF, z_eqF, z_b_0, z_b_1, ↓reduceIte, eq_self, not_true_eq_false, not_false_eq_true, and_true, true_and, and_false, false_and, Nat.add_zero, Nat.zero_add])
  have i0 : r_cm I' I J (75 * 0) = I' := by
    unfold r_cm
    show z_ri (z_ri I' 41 (I' 41)) 42 (I' 42) = I'
    funext b j
    unfold z_ri
    split
    · rename_i h; rw [h]
    · split
      · rename_i h; rw [h]
      · rfl
  refine ⟨S', I', J', P', ?_, h2.x0.trans (n' := n.1 + 2) (by omega) (r_cm_ag _ _ _ _ _ _ _ _ _)⟩
  unfold f_Rs_findReadings
  rw [C_gat8 hS, Option.bind_some]
  show q_sq (f_Rs_gather 8 (z_n 0) (z_n 0) _) _ = _
  rw [h1, z_sq]
  have e' : f_Rs_findReadings_L11 8 n.1 q_FU (z_n (u_rc (r_va I J) (75 * 0))) (z_n 0) (z_h S' (r_cm I' I J (75 * 0)) J' P' (n.1 + 2, n.2 + 16)) = _ := e
  rw [i0] at e'
  show q_sq (f_Rs_findReadings_L11 8 n.1 q_FU (z_n (u_rc (r_va I J) (75 * 0))) (z_n 0) _) _ = _
  rw [e', z_sq]
end
