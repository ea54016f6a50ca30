/-! move, mover. -/
section
variable {S : z_SH} {I : z_MI} {J : z_MJ} {P : z_MP} {K : Nat → Bool} {n : Nat × Nat}
theorem z_mvb_0 (I : z_MI) (J : z_MJ) (s : Nat) : z_mvb I J s = 0 ↔ z_co I J (z_n 0) (z_n 0) (-z_n 1) (z_n 31) (z_n 2) = 0 ∨ z_co I J (z_n 0) (z_n 0) (z_n s) (z_n 31) (z_n 2) = 0 := by
  unfold z_mvb
  rw [Nat.mul_eq_zero]
  exact ⟨fun h => h.symm, fun h => h.symm⟩
set_option maxRecDepth 100000 in
set_option maxHeartbeats 4000000 in
theorem M_moves (B : z_B S I J P K n.1) {S' : z_SH} {I1 : z_MI} {J1 : z_MJ} {P' : z_MP} {n' : Nat × Nat} (hS' : z_St S') (hP' : z_Pt P') (c : z_cg I J I1 J1) {s : Nat} (hs : s < 24) :
    f_Mo_moves 83 (z_n s) (z_h S' I1 J1 P' n') = if z_th I s = true ∧ ¬ z_mvb I J s = 0 then some (z_n 1, z_h S' I1 (z_uj (z_uj J1 83 25 (z_z (z_mva I J s))) 83 26 (z_z (z_mvb I J s : Nat))) P' n') else some (z_n 0, z_h S' I1 J1 P' n') := by
  have co := M_count B hS' hP' c (n' := n')
  have th := M_isThere (n := n') (I := I1) (J := J1) hS' hP' hs
  rw [z_th_c c] at th
  have w1 : ∀ I J P n v, q_sf (z_h S' I J P n) 12 83 25 (.long v) = some (z_h S' I (z_uj J 83 25 v) P n) := fun _ _ _ _ _ => z_sfl (s_83 hS') (by decide) rfl
  have w2 : ∀ I J P n v, q_sf (z_h S' I J P n) 12 83 26 (.long v) = some (z_h S' I (z_uj J 83 26 v) P n) := fun _ _ _ _ _ => z_sfl (s_83 hS') (by decide) rfl
  have co1 := M_count B hS' hP' (c.trans (z_cg.uj (a := 83) (i := 25) (v := z_z (z_mva I J s)) rfl)) (n' := n')
  have b1 := z_co_le J B.qL (z_n 0) (z_n 0) (-z_n 1) (z_n 31) (z_n 2)
  have b2 := z_co_le J B.qL (z_n 0) (z_n 0) (z_n s) (z_n 31) (z_n 2)
  have b3 := z_co_le J B.qL (z_n 0) (z_n 0) (z_n s) (z_n 1) (z_n 2)
  have b4 := z_co_le J B.qL (z_n 0) (z_n 0) (-z_n 1) (z_n 1) (z_n 2)
  have e1 : z_z (z_co I J (z_n 0) (z_n 0) (z_n s) (z_n 1) (z_n 2) : Nat) * z_z (z_co I J (z_n 0) (z_n 0) (-z_n 1) (z_n 31) (z_n 2) : Nat) - z_z (z_co I J (z_n 0) (z_n 0) (-z_n 1) (z_n 1) (z_n 2) : Nat) * z_z (z_co I J (z_n 0) (z_n 0) (z_n s) (z_n 31) (z_n 2) : Nat) = z_z (z_mva I J s) := by
    rw [z_z_mul, z_z_mul, z_z_sub]; rfl
  have e2 : z_z (z_co I J (z_n 0) (z_n 0) (-z_n 1) (z_n 31) (z_n 2) : Nat) * z_z (z_co I J (z_n 0) (z_n 0) (z_n s) (z_n 31) (z_n 2) : Nat) = z_z (z_mvb I J s : Nat) := by
    rw [z_z_mul]
    congr 1
    unfold z_mvb
    rw [Nat.mul_comm]; rfl
  have h0 := z_mvb_0 I J s
  by_cases ht : z_th I s = true
  · by_cases h1 : z_co I J (z_n 0) (z_n 0) (-z_n 1) (z_n 31) (z_n 2) = 0
    · have h2 : z_mvb I J s = 0 := h0.mpr (Or.inl h1)
      simp (disch := omega) only [f_Mo_moves, z_ob (s_83 hS'), th, ht, co, h1, h2, z_cast, z_z0, z_zz, or_true, true_or, or_false, false_or, z_b_T, z_b_F, Bool.false_eq_true, Classical.not_not, decide_eq_true_eq, z_sq, Option.bind_some, z_lits, z_n_add, z_n_mul, z_lt, z_le, z_eq, z_ne1, z_1ne, z_lt1, z_1lt, z_ltT, z_ltF, z_leT, z_leF, z_eqF, z_b_0, z_b_1, ↓reduceIte, eq_self, not_true_eq_false, not_false_eq_true, and_true, true_and, and_false, false_and, Nat.add_zero, Nat.zero_add]
    · by_cases h2 : z_co I J (z_n 0) (z_n 0) (z_n s) (z_n 31) (z_n 2) = 0
      · have h3 : z_mvb I J s = 0 := h0.mpr (Or.inr h2)
        simp (disch := omega) only [f_Mo_moves, z_ob (s_83 hS'), th, ht, co, h1, h2, h3, z_cast, z_z0, z_zz, or_true, true_or, or_false, false_or, z_b_T, z_b_F, Bool.false_eq_true, Classical.not_not, decide_eq_true_eq, z_sq, Option.bind_some, z_lits, z_n_add, z_n_mul, z_lt, z_le, z_eq, z_ne1, z_1ne, z_lt1, z_1lt, z_ltT, z_ltF, z_leT, z_leF, z_eqF, z_b_0, z_b_1, ↓reduceIte, eq_self, not_true_eq_false, not_false_eq_true, and_true, true_and, and_false, false_and, Nat.add_zero, Nat.zero_add]
      · have h3 : ¬ z_mvb I J s = 0 := fun e => (h0.mp e).elim h1 h2
        simp (disch := omega) only [f_Mo_moves, z_ob (s_83 hS'), th, ht, co, h1, h2, h3, z_cast, z_z0, z_zz, e1, e2, w1, w2, or_true, true_or, or_false, false_or, z_b_T, z_b_F, Bool.false_eq_true, Classical.not_not, decide_eq_true_eq, z_sq, Option.bind_some, z_lits, z_n_add, z_n_mul, z_lt, z_le, z_eq, z_ne1, z_1ne, z_lt1, z_1lt, z_ltT, z_ltF, z_leT, z_leF, z_eqF, z_b_0, z_b_1, ↓reduceIte, eq_self, not_true_eq_false, not_false_eq_true, and_true, true_and, and_false, false_and, Nat.add_zero, Nat.zero_add]
  · simp (disch := omega) only [f_Mo_moves, z_ob (s_83 hS'), th, ht, co, or_true, true_or, or_false, false_or, z_b_T, z_b_F, Bool.false_eq_true, Classical.not_not, decide_eq_true_eq, z_sq, Option.bind_some, z_lits, z_n_add, z_n_mul, z_lt, z_le, z_eq, z_ne1, z_1ne, z_lt1, z_1lt, z_ltT, z_ltF, z_leT, z_leF, z_eqF, z_b_0, z_b_1, ↓reduceIte, eq_self, not_true_eq_false, not_false_eq_true, and_true, true_and, and_false, false_and, Nat.add_zero, Nat.zero_add]
theorem M_moves_o {S' : z_SH} {I1 : z_MI} {J1 : z_MJ} {P' : z_MP} {n' : Nat × Nat} (hS' : z_St S') (hP' : z_Pt P') {s : Int32} (hs : z_o s 23) : f_Mo_moves 83 s (z_h S' I1 J1 P' n') = some (z_n 0, z_h S' I1 J1 P' n') := by
  have th := M_isThere_o (n := n') (I := I1) (J := J1) hS' hP' hs
  simp (disch := omega) only [f_Mo_moves, z_ob (s_83 hS'), th, or_true, true_or, or_false, false_or, z_b_T, z_b_F, Bool.false_eq_true, Classical.not_not, decide_eq_true_eq, z_sq, Option.bind_some, z_lits, z_n_add, z_n_mul, z_lt, z_le, z_eq, z_ne1, z_1ne, z_lt1, z_1lt, z_ltT, z_ltF, z_leT, z_leF, z_eqF, z_b_0, z_b_1, ↓reduceIte, eq_self, not_true_eq_false, not_false_eq_true, and_true, true_and, and_false, false_and, Nat.add_zero, Nat.zero_add]
theorem C_moveOf_o (hS : z_St S) (hP : z_Pt P) {s : Int32} {t : Nat} (hs : z_o s 23) : f_Rs_moveOf 8 s t (z_h S I J P n) = some (none, z_h S I J P n) := by
  have e8 : q_gr (q_gf (z_h S I J P n) 0 8 3) = some 13 := z_gr (s_8 hS) rfl (p_8_3 hP)
  simp (disch := omega) only [f_Rs_moveOf, e8, z_ob (s_13 hS), C_pageOf_o hs, or_true, true_or, or_false, false_or, z_b_T, z_b_F, Bool.false_eq_true, Classical.not_not, decide_eq_true_eq, z_sq, Option.bind_some, z_lits, z_n_add, z_n_mul, z_lt, z_le, z_eq, z_ne1, z_1ne, z_lt1, z_1lt, z_ltT, z_ltF, z_leT, z_leF, z_eqF, z_b_0, z_b_1, ↓reduceIte, eq_self, not_true_eq_false, not_false_eq_true, and_true, true_and, and_false, false_and, Nat.add_zero, Nat.zero_add]
-- moves or not
theorem M_move_no {S' : z_SH} {I1 : z_MI} {J1 : z_MJ} {P' : z_MP} {n' : Nat × Nat} (hS' : z_St S') {s d : Int32} (h : z_wi d 1 = false ∨ f_Mo_moves 83 s (z_h S' I1 J1 P' n') = some (z_n 0, z_h S' I1 J1 P' n')) : f_Mo_move 83 s d (z_h S' I1 J1 P' n') = some (z_n 0, z_h S' (z_up I1 83 0 (z_n 1)) J1 P' n') := by
  by_cases hw : z_wi d 1 = true
  · rcases h with h | h
    · rw [hw] at h; cases h
    · simp (disch := omega) only [f_Mo_move, M_wi, hw, z_ob (s_83 hS'), h, M_thr hS', M_r0 hS', z_up_s, or_true, true_or, or_false, false_or, z_b_T, z_b_F, Bool.false_eq_true, Classical.not_not, decide_eq_true_eq, z_sq, Option.bind_some, z_lits, z_n_add, z_n_mul, z_lt, z_le, z_eq, z_ne1, z_1ne, z_lt1, z_1lt, z_ltT, z_ltF, z_leT, z_leF, z_eqF, z_b_0, z_b_1, ↓reduceIte, eq_self, not_true_eq_false, not_false_eq_true, and_true, true_and, and_false, false_and, Nat.add_zero, Nat.zero_add]
  · simp (disch := omega) only [f_Mo_move, M_wi, hw, M_thr hS', M_r0 hS', z_up_s, or_true, true_or, or_false, false_or, z_b_T, z_b_F, Bool.false_eq_true, Classical.not_not, decide_eq_true_eq, z_sq, Option.bind_some, z_lits, z_n_add, z_n_mul, z_lt, z_le, z_eq, z_ne1, z_1ne, z_lt1, z_1lt, z_ltT, z_ltF, z_leT, z_leF, z_eqF, z_b_0, z_b_1, ↓reduceIte, eq_self, not_true_eq_false, not_false_eq_true, and_true, true_and, and_false, false_and, Nat.add_zero, Nat.zero_add]
set_option maxRecDepth 100000 in
set_option maxHeartbeats 4000000 in
theorem X_move (B : z_B S I J P K n.1) (s d : Int32) : z_prt (f_Rs_move 8 s d) (f_Mo_move 83 s d) S I J P K n := by
  have hS := B.qS
  have hP := B.qP
  have hn := B.qn
  obtain ⟨S1, I1, J1, P1, h1, h2, h3, hS1, hP1, cg1⟩ := C_gat B (a := z_n 0) (b := z_n 0) rfl
  have B1 : z_B S1 I1 J1 P1 K (n.1 + 2, n.2 + 16).1 := B.mono z_keep0 h2 (by simp)
  rcases z_in s 23 (by omega) with ⟨x, hx, rfl⟩ | ho
  · obtain ⟨r, S2, I2, J2, P2, n2, k1, k2, k3, k4⟩ := C_moveOf (n := (n.1 + 2, n.2 + 16)) B1 cg1 h3 (s := x) (by omega)
    have g := h2.trans (by simp) k2
    have cg2 := g.cg (K := K) z_keep0 B.2.2.1.2 hn
    have hS2 := hS.mono g hn
    have hP2 := hP.mono g hn
    have k3' : n.1 ≤ n2.1 ∧ n2.1 ≤ n.1 + 3 ∧ n2.2 ≤ n.2 + 18 := by simp at k3; omega
    have bnd : n.1 ≤ (n2.1 + 1, n2.2 + 6).1 ∧ (n2.1 + 1, n2.2 + 6).1 ≤ n.1 + 60 ∧ (n2.1 + 1, n2.2 + 6).2 ≤ n.2 + 3000 := by simp; omega
    by_cases hz : z_wi d 1 = true ∧ z_th I x = true ∧ ¬ z_mvb I J x = 0
    · obtain ⟨hw, ht, hb⟩ := hz
      have hd := z_wi1.mp hw
      rcases k4 with ⟨q | q, _⟩ | ⟨-, -, y, rfl, -, hrt⟩
      · rw [ht] at q; cases q
      · exact absurd q hb
      · have mv := M_moves B hS2 hP2 cg2 (n' := n2) (s := x) (by omega)
        rw [if_pos ⟨ht, hb⟩] at mv
        have e := M_low (σ := z_h S2 (z_up I2 83 0 (z_n 0)) (z_uj (z_uj J2 83 25 (z_z (z_mva I J x))) 83 26 (z_z (z_mvb I J x : Nat))) P2 n2) (A := z_mva I J x) (b := z_mvb I J x) (what := d) (by have := z_mva_le B x; omega) (by have := z_mvb_le B x; omega) hb hd
        unfold z_fr at e
        rw [if_neg hb] at e
        have r5 : ∀ I J P n, q_gl' (q_gf (z_h S2 I J P n) 12 83 25) = some (J 83 25) := fun _ _ _ _ => z_gl (s_83 hS2) rfl
        have r6 : ∀ I J P n, q_gl' (q_gf (z_h S2 I J P n) 12 83 26) = some (J 83 26) := fun _ _ _ _ => z_gl (s_83 hS2) rfl
        refine z_prt.some' (z_pa (z_mva I J x) (z_mvb I J x) d) (S' := S2) (I' := I2) (J' := J2) (P' := P2) (n' := n2) (I2 := z_up I2 83 0 (z_n 0)) (J2 := z_uj (z_uj J2 83 25 (z_z (z_mva I J x))) 83 26 (z_z (z_mvb I J x : Nat))) ?_ g.x0 ⟨by omega, by omega, by omega⟩ ?_ ((z_mf.up rfl).trans ((z_mf.uj rfl).trans (z_mf.uj rfl))) (z_up_s _ _ _ _)
        · simp (disch := omega) only [f_Rs_move, C_gat8 hS, C_gat8 hS1, h1, k1, C_wi, hw, C_partOf hrt, or_true, true_or, or_false, false_or, z_b_T, z_b_F, Bool.false_eq_true, Classical.not_not, decide_eq_true_eq, z_sq, Option.bind_some, z_lits, z_n_add, z_n_mul, z_lt, z_le, z_eq, z_ne1, z_1ne, z_lt1, z_1lt, z_ltT, z_ltF, z_leT, z_leF, z_eqF, z_b_0, z_b_1, ↓reduceIte, eq_self, not_true_eq_false, not_false_eq_true, and_true, true_and, and_false, false_and, Nat.add_zero, Nat.zero_add]
        · have u : z_uj (z_uj J2 83 25 (z_z (z_mva I J x))) 83 26 (z_z (z_mvb I J x : Nat)) 83 25 = z_z (z_mva I J x) := by rw [z_uj_i (by omega), z_uj_s]
          simp (disch := omega) only [f_Mo_move, M_wi, hw, z_ob (s_83 hS2), mv, M_thr hS2, M_r0 hS2, z_up_s, r5, r6, u, z_uj_s, e, or_true, true_or, or_false, false_or, z_b_T, z_b_F, Bool.false_eq_true, Classical.not_not, decide_eq_true_eq, z_sq, Option.bind_some, z_lits, z_n_add, z_n_mul, z_lt, z_le, z_eq, z_ne1, z_1ne, z_lt1, z_1lt, z_ltT, z_ltF, z_leT, z_leF, z_eqF, z_b_0, z_b_1, ↓reduceIte, eq_self, not_true_eq_false, not_false_eq_true, and_true, true_and, and_false, false_and, Nat.add_zero, Nat.zero_add]
    · have hr : r = none ∨ z_wi d 1 = false := by
        rcases k4 with ⟨-, h⟩ | ⟨p1, p2, -⟩
        · exact Or.inl h
        · right
          cases e : z_wi d 1 with
          | false => rfl
          | true => exact absurd ⟨e, p1, by omega⟩ hz
      refine z_prt.thr' (S' := S2) (I' := I2) (J' := J2) (P' := P2) (n' := (n2.1 + 1, n2.2 + 6)) ?_ g.x0 bnd (M_move_no hS2 ?_) (z_mf.up rfl) (z_up_s _ _ _ _)
      · rcases hr with rfl | hw
        · simp (disch := omega) only [f_Rs_move, C_gat8 hS, C_gat8 hS1, h1, k1, z_thr, or_true, true_or, or_false, false_or, z_b_T, z_b_F, Bool.false_eq_true, Classical.not_not, decide_eq_true_eq, z_sq, Option.bind_some, z_lits, z_n_add, z_n_mul, z_lt, z_le, z_eq, z_ne1, z_1ne, z_lt1, z_1lt, z_ltT, z_ltF, z_leT, z_leF, z_eqF, z_b_0, z_b_1, ↓reduceIte, eq_self, not_true_eq_false, not_false_eq_true, and_true, true_and, and_false, false_and, Nat.add_zero, Nat.zero_add]
        · cases r <;> simp (disch := omega) only [f_Rs_move, C_gat8 hS, C_gat8 hS1, h1, k1, C_wi, hw, z_thr, or_true, true_or, or_false, false_or, z_b_T, z_b_F, Bool.false_eq_true, Classical.not_not, decide_eq_true_eq, z_sq, Option.bind_some, z_lits, z_n_add, z_n_mul, z_lt, z_le, z_eq, z_ne1, z_1ne, z_lt1, z_1lt, z_ltT, z_ltF, z_leT, z_leF, z_eqF, z_b_0, z_b_1, ↓reduceIte, eq_self, not_true_eq_false, not_false_eq_true, and_true, true_and, and_false, false_and, Nat.add_zero, Nat.zero_add]
      · by_cases hw : z_wi d 1 = true
        · right
          rw [M_moves B hS2 hP2 cg2 (by omega), if_neg (fun e => hz ⟨hw, e.1, e.2⟩)]
        · left; simpa using hw
  · refine z_prt.thr' (S' := S1) (I' := I1) (J' := J1) (P' := P1) (n' := ((n.1 + 2, n.2 + 16).1 + 1, (n.1 + 2, n.2 + 16).2 + 6)) ?_ h2.x0 ⟨by simp; omega, by simp, by simp⟩ (M_move_no hS1 (Or.inr (M_moves_o hS1 hP1 ho))) (z_mf.up rfl) (z_up_s _ _ _ _)
    simp (disch := omega) only [f_Rs_move, C_gat8 hS, C_gat8 hS1, h1, C_moveOf_o hS1 hP1 ho, z_thr, or_true, true_or, or_false, false_or, z_b_T, z_b_F, Bool.false_eq_true, Classical.not_not, decide_eq_true_eq, z_sq, Option.bind_some, z_lits, z_n_add, z_n_mul, z_lt, z_le, z_eq, z_ne1, z_1ne, z_lt1, z_1lt, z_ltT, z_ltF, z_leT, z_leF, z_eqF, z_b_0, z_b_1, ↓reduceIte, eq_self, not_true_eq_false, not_false_eq_true, and_true, true_and, and_false, false_and, Nat.add_zero, Nat.zero_add]
end
