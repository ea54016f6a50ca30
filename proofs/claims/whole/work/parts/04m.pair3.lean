/-! born, lean, move, mover, bounds. -/
theorem z_zpos {k : Nat} (h : k ≤ 1000000000) : (z_z 0 < z_z (k : Nat)) = (0 < k) := by
  rw [z_z_lt (by omega) (by omega) (by omega) (by omega)]
  exact propext ⟨fun h => by omega, fun h => by omega⟩
theorem z_zz {k : Nat} (h : k ≤ 1000000000) : (z_z (k : Nat) = z_z 0) = (k = 0) := by
  rw [z_z_eq (by omega) (by omega) (by omega) (by omega)]
  exact propext ⟨fun h => by omega, fun h => by omega⟩
/-- a call that may throw -/
def z_prt (fc : q_H → Option (Option Int32 × q_H)) (fm : q_H → Option (Int32 × q_H)) (S : z_SH) (I : z_MI) (J : z_MJ) (P : z_MP) (K : Nat → Bool) (n : Nat × Nat) : Prop :=
  ∃ r r2 S' I' J' P' n' I2 J2, fc (z_h S I J P n) = some (r, z_h S' I' J' P' n') ∧ fm (z_h S' I' J' P' n') = some (r2, z_h S' I2 J2 P' n') ∧ z_ag n.1 (z_x0 K) S I J P S' I' J' P' ∧ (n.1 ≤ n'.1 ∧ n'.1 ≤ n.1 + 60 ∧ n'.2 ≤ n.2 + 3000) ∧ z_mf I' J' I2 J2 ∧
    match r with | some x => r2 = x ∧ I2 83 0 = z_n 0 | none => I2 83 0 = z_n 1
theorem z_thr (S : z_SH) (I : z_MI) (J : z_MJ) (P : z_MP) (n : Nat × Nat) : q_th (z_h S I J P n) = z_h S I J P (n.1 + 1, n.2 + 6) := rfl
section
variable {S S' : z_SH} {I I' I2 : z_MI} {J J' J2 : z_MJ} {P P' : z_MP} {K : Nat → Bool} {n n' : Nat × Nat}
theorem z_prt.some' {fc : q_H → Option (Option Int32 × q_H)} {fm : q_H → Option (Int32 × q_H)} (x : Int32) (h1 : fc (z_h S I J P n) = some (some x, z_h S' I' J' P' n')) (g : z_ag n.1 (z_x0 K) S I J P S' I' J' P') (b : n.1 ≤ n'.1 ∧ n'.1 ≤ n.1 + 60 ∧ n'.2 ≤ n.2 + 3000) (h2 : fm (z_h S' I' J' P' n') = some (x, z_h S' I2 J2 P' n')) (m : z_mf I' J' I2 J2) (h0 : I2 83 0 = z_n 0) : z_prt fc fm S I J P K n :=
  ⟨some x, x, S', I', J', P', n', I2, J2, h1, h2, g, b, m, rfl, h0⟩
theorem z_prt.thr' {fc : q_H → Option (Option Int32 × q_H)} {fm : q_H → Option (Int32 × q_H)} {r2 : Int32} (h1 : fc (z_h S I J P n) = some (none, z_h S' I' J' P' n')) (g : z_ag n.1 (z_x0 K) S I J P S' I' J' P') (b : n.1 ≤ n'.1 ∧ n'.1 ≤ n.1 + 60 ∧ n'.2 ≤ n.2 + 3000) (h2 : fm (z_h S' I' J' P' n') = some (r2, z_h S' I2 J2 P' n')) (m : z_mf I' J' I2 J2) (h0 : I2 83 0 = z_n 1) : z_prt fc fm S I J P K n :=
  ⟨none, r2, S', I', J', P', n', I2, J2, h1, h2, g, b, m, h0⟩
end
section
variable {S : z_SH} {I : z_MI} {J : z_MJ} {P : z_MP} {K : Nat → Bool} {n : Nat × Nat}
set_option maxRecDepth 100000 in
set_option maxHeartbeats 4000000 in
theorem X_born (B : z_B S I J P K n.1) (a d : Int32) : z_pr (f_Rs_born 8 a d) (f_Mo_born 83 a d) S I J P K n := by
  have hS := B.qS
  have hP := B.qP
  have hn := B.qn
  obtain ⟨S', I', J', P', h1, h2, h3, hS', hP', cg⟩ := C_gat B (a := z_n 0) (b := z_n 0) rfl
  have key : ∀ lv, lv ≤ 2 → ∀ y, y = (if a = z_n 0 then z_n 1 else z_n 2) → ∀ t, t = (if a = z_n 0 then z_n 1 else z_n 0) → y = z_n lv → t = z_n (2 - lv) → z_pr (f_Rs_born 8 a d) (f_Mo_born 83 a d) S I J P K n := by
    intro lv hlv y hy t ht hy2 ht2
    have b1 := z_pick_le B (z_n 0) (z_n 0) lv 0
    have b2 := z_alln_le B (z_n 0) (z_n 0) lv
    obtain ⟨r, S2, I2, J2, P2, n2, k1, k2, k3, k4⟩ := C_ratio (S := S') (I := I') (J := J') (P := P') (n := (n.1 + 2, n.2 + 16)) (A := (z_pick I J (z_n 0) (z_n 0) lv 0 : Nat)) (b := z_alln I J (z_n 0) (z_n 0) lv) (what := d) (by omega) (by omega) (by simp; omega)
    have g := h2.trans (by simp) k3
    have m' : z_mf I2 J2 (z_up I2 83 0 (z_n 0)) J2 := z_mf.up rfl
    have cg2 := g.cg (K := K) z_keep0 B.2.2.1.2 hn
    have hS2 := hS.mono g hn
    have co := M_count B hS2 (hP.mono g hn) (cg2.trans m'.cg) (n' := n2) (z_n 0) (z_n 0)
    refine ⟨z_fr (z_pick I J (z_n 0) (z_n 0) lv 0 : Nat) (z_alln I J (z_n 0) (z_n 0) lv) d, S2, I2, J2, P2, n2, _, _, ?_, ?_, g.x0, ⟨by simp at k4; omega, by simp at k4; omega, by simp at k4; omega⟩, m'⟩
    · have q : ∀ σ : q_H, (if a = z_n 0 then some (z_n 1, σ) else some (z_n 2, σ)) = some (z_n lv, σ) := by
        intro σ
        rw [← hy2, hy]
        split <;> rfl
      simp (disch := omega) only [f_Rs_born, C_gat8 hS, h1, q, h3.r.1, C_picked' h3, C_all' h3, z_cast, k1, k2, or_true, true_or, or_false, false_or, z_b_T, z_b_F, Bool.false_eq_true, Classical.not_not, decide_eq_true_eq, z_sq, Option.bind_some, z_lits, z_n_add, z_n_mul, z_lt, z_le, z_eq, z_ne1, z_1ne, z_lt1, z_1lt, z_ltT, z_ltF, z_leT, z_leF, z_eqF, z_b_0, z_b_1, ↓reduceIte, eq_self, not_true_eq_false, not_false_eq_true, and_true, true_and, and_false, false_and, Nat.add_zero, Nat.zero_add]
    · have q : ∀ σ : q_H, (if a = z_n 0 then some (z_n 1, σ) else some (z_n 0, σ)) = some (z_n (2 - lv), σ) := by
        intro σ
        rw [← ht2, ht]
        split <;> rfl
      rcases z_d1 (d := d) with hd | hd
      · by_cases h0 : z_alln I J (z_n 0) (z_n 0) lv = 0
        · have h0' : z_co I J (z_n 0) (z_n 0) (-z_n 1) (z_n 31) (z_n (2 - lv)) = 0 := h0
          simp (disch := omega) only [f_Mo_born, M_thr hS2, z_ob (s_83 hS2), M_wi1 hd, q, co, h0', or_true, true_or, or_false, false_or, z_b_T, z_b_F, Bool.false_eq_true, Classical.not_not, decide_eq_true_eq, z_sq, Option.bind_some, z_lits, z_n_add, z_n_mul, z_lt, z_le, z_eq, z_ne1, z_1ne, z_lt1, z_1lt, z_ltT, z_ltF, z_leT, z_leF, z_eqF, z_b_0, z_b_1, ↓reduceIte, eq_self, not_true_eq_false, not_false_eq_true, and_true, true_and, and_false, false_and, Nat.add_zero, Nat.zero_add]
          unfold z_fr
          rw [if_pos h0]
        · have h0' : ¬ z_co I J (z_n 0) (z_n 0) (-z_n 1) (z_n 31) (z_n (2 - lv)) = 0 := h0
          have e := M_low (σ := z_h S2 (z_up I2 83 0 (z_n 0)) J2 P2 n2) (A := (z_pick I J (z_n 0) (z_n 0) lv 0 : Nat)) (b := z_alln I J (z_n 0) (z_n 0) lv) (what := d) (by omega) (by omega) h0 hd
          have e1 : z_hw 0 = 1 := rfl
          simp only [z_pick, z_alln, e1] at e b1 b2
          simp (disch := omega) only [f_Mo_born, M_thr hS2, z_ob (s_83 hS2), M_wi1 hd, q, co, h0', z_cast, e, or_true, true_or, or_false, false_or, z_b_T, z_b_F, Bool.false_eq_true, Classical.not_not, decide_eq_true_eq, z_sq, Option.bind_some, z_lits, z_n_add, z_n_mul, z_lt, z_le, z_eq, z_ne1, z_1ne, z_lt1, z_1lt, z_ltT, z_ltF, z_leT, z_leF, z_eqF, z_b_0, z_b_1, ↓reduceIte, eq_self, not_true_eq_false, not_false_eq_true, and_true, true_and, and_false, false_and, Nat.add_zero, Nat.zero_add]
          rfl
      · rw [z_fr_o hd]
        simp (disch := omega) only [f_Mo_born, M_thr hS2, z_ob (s_83 hS2), q, co, M_wout hd, or_true, true_or, or_false, false_or, z_b_T, z_b_F, Bool.false_eq_true, Classical.not_not, decide_eq_true_eq, z_sq, Option.bind_some, z_lits, z_n_add, z_n_mul, z_lt, z_le, z_eq, z_ne1, z_1ne, z_lt1, z_1lt, z_ltT, z_ltF, z_leT, z_leF, z_eqF, z_b_0, z_b_1, ↓reduceIte, eq_self, not_true_eq_false, not_false_eq_true, and_true, true_and, and_false, false_and, Nat.add_zero, Nat.zero_add]
  by_cases ha : a = z_n 0
  · exact key 1 (by omega) _ rfl _ rfl (if_pos ha) (if_pos ha)
  · exact key 2 (by omega) _ rfl _ rfl (if_neg ha) (if_neg ha)
theorem z_ty.go {S' : z_SH} {I' : z_MI} {J' : z_MJ} {P' : z_MP} {t m : Nat} {c : Nat → Nat → Nat} (h : z_ty S I P t c) (g : z_ag m z_nil S I J P S' I' J' P') (ht : t + 1 < m) : z_ty S' I' P' t c :=
  h.mono (g t (by omega)).1 ⟨(g (t + 1) ht).1.1, ((g (t + 1) ht).2 rfl).1⟩
set_option maxRecDepth 100000 in
set_option maxHeartbeats 4000000 in
theorem X_lean (B : z_B S I J P K n.1) (d : Int32) : z_prt (f_Rs_lean 8 d) (f_Mo_lean 83 d) S I J P K n := by
  have hS := B.qS
  have hP := B.qP
  have hn := B.qn
  obtain ⟨S1, I1, J1, P1, h1, h2, h3, hS1, hP1, cg1⟩ := C_gat B (a := z_n 3) (b := z_n 0) rfl
  have B1 : z_B S1 I1 J1 P1 K (n.1 + 2, n.2 + 16).1 := B.mono z_keep0 h2 (by simp)
  obtain ⟨S', I', J', P', k1, k2, k3, hS', hP', cg2⟩ := C_gat B1 (a := z_n 3) (b := z_n 1) rfl
  have h3' : z_ty S' I' P' n.1 (z_ct I J (z_n 3) (z_n 0) 24) := h3.go k2 (by simp)
  have ect : z_ct I1 J1 (z_n 3) (z_n 1) 24 = z_ct I J (z_n 3) (z_n 1) 24 := by
    funext q t
    exact z_sum_eq (fun s _ => by rw [z_ii_c cg1, z_Ds_c cg1])
  rw [ect] at k3
  have a0 := z_pick_le B (z_n 3) (z_n 0) 0 0
  have a1 := z_alln_le B (z_n 3) (z_n 0) 0
  have a2 := z_pick_le B (z_n 3) (z_n 1) 0 0
  have a3 := z_alln_le B (z_n 3) (z_n 1) 0
  obtain ⟨r, S2, I2, J2, P2, n2, c1, c2, c3, c4⟩ := C_Ra_diff (S := S') (I := I') (J := J') (P := P') (n := ((n.1 + 2, n.2 + 16).1 + 2, (n.1 + 2, n.2 + 16).2 + 16)) (a := z_pick I J (z_n 3) (z_n 0) 0 0) (b := z_alln I J (z_n 3) (z_n 0) 0) (c := z_pick I J (z_n 3) (z_n 1) 0 0) (d := z_alln I J (z_n 3) (z_n 1) 0) (by omega) (by omega) (by omega) (by omega) (by simp; omega)
  have g := (h2.trans (by simp) k2).trans (by simp; omega) c2
  have cg3 := g.cg (K := K) z_keep0 B.2.2.1.2 hn
  have hS2 := hS.mono g hn
  have hP2 := hP.mono g hn
  have c3' : n.1 ≤ n2.1 ∧ n2.1 ≤ n.1 + 5 ∧ n2.2 ≤ n.2 + 34 := by simp at c3; omega
  have cls : ∀ y, (match (motive := Option Nat → Option (Option Int32 × q_H)) r with | none => (some (none, q_th (z_h S2 I2 J2 P2 n2))) | some a21 => (q_sq (f_Rs_isFrom (z_n 0) d (z_n 1) (z_h S2 I2 J2 P2 n2)) fun x23 σ22 => if x23 = z_n 0 then some (none, q_th σ22) else (q_sq (f_Rs_partOf (some a21) d σ22) fun x26 σ25 => some (some x26, σ25)))) = y → f_Rs_lean 8 d (z_h S I J P n) = y := by
    intro y hy
    rw [← hy]
    cases r <;> simp (disch := omega) only [f_Rs_lean, C_gat8 hS, C_gat8 hS1, h1, k1, h3'.r.1, k3.r.1, C_picked' h3', C_all' h3', C_picked' k3, C_all' k3, z_cast, c1, or_true, true_or, or_false, false_or, z_b_T, z_b_F, Bool.false_eq_true, Classical.not_not, decide_eq_true_eq, z_sq, Option.bind_some, z_lits, z_n_add, z_n_mul, z_lt, z_le, z_eq, z_ne1, z_1ne, z_lt1, z_1lt, z_ltT, z_ltF, z_leT, z_leF, z_eqF, z_b_0, z_b_1, ↓reduceIte, eq_self, not_true_eq_false, not_false_eq_true, and_true, true_and, and_false, false_and, Nat.add_zero, Nat.zero_add]
  have bnd : n.1 ≤ (n2.1 + 1, n2.2 + 6).1 ∧ (n2.1 + 1, n2.2 + 6).1 ≤ n.1 + 60 ∧ (n2.1 + 1, n2.2 + 6).2 ≤ n.2 + 3000 := by simp; omega
  have e1 : z_hw 0 = 1 := rfl
  by_cases hz : z_wi d 1 = true ∧ 0 < z_alln I J (z_n 3) (z_n 0) 0 ∧ 0 < z_alln I J (z_n 3) (z_n 1) 0
  · obtain ⟨hw, p1, p2⟩ := hz
    have hd := z_wi1.mp hw
    rcases c4 with ⟨q | q, _⟩ | ⟨-, -, x, rfl, -, hrt⟩
    · omega
    · omega
    · have m' : z_mf I2 J2 (z_up I2 83 0 (z_n 0)) J2 := z_mf.up rfl
      have co0 := M_count B hS2 hP2 cg3 (n' := n2)
      have co := M_count B hS2 hP2 (cg3.trans m'.cg) (n' := n2)
      have m1 : z_pick I J (z_n 3) (z_n 0) 0 0 * z_alln I J (z_n 3) (z_n 1) 0 ≤ 288 * 288 := Nat.mul_le_mul a0 a3
      have m2 : z_pick I J (z_n 3) (z_n 1) 0 0 * z_alln I J (z_n 3) (z_n 0) 0 ≤ 288 * 288 := Nat.mul_le_mul a2 a1
      have m3 : z_alln I J (z_n 3) (z_n 0) 0 * z_alln I J (z_n 3) (z_n 1) 0 ≤ 288 * 288 := Nat.mul_le_mul a1 a3
      have m4 : 0 < z_alln I J (z_n 3) (z_n 0) 0 * z_alln I J (z_n 3) (z_n 1) 0 := Nat.mul_pos p1 p2
      refine z_prt.some' (z_pa ((z_pick I J (z_n 3) (z_n 0) 0 0 * z_alln I J (z_n 3) (z_n 1) 0 : Nat) - (z_pick I J (z_n 3) (z_n 1) 0 0 * z_alln I J (z_n 3) (z_n 0) 0 : Nat)) (z_alln I J (z_n 3) (z_n 0) 0 * z_alln I J (z_n 3) (z_n 1) 0) d) (n' := n2) (cls _ ?_) g.x0 ⟨by omega, by omega, by omega⟩ ?_ m' (z_up_s _ _ _ _)
      · simp (disch := omega) only [C_wi, hw, C_partOf hrt, or_true, true_or, or_false, false_or, z_b_T, z_b_F, Bool.false_eq_true, Classical.not_not, decide_eq_true_eq, z_sq, Option.bind_some, z_lits, z_n_add, z_n_mul, z_lt, z_le, z_eq, z_ne1, z_1ne, z_lt1, z_1lt, z_ltT, z_ltF, z_leT, z_leF, z_eqF, z_b_0, z_b_1, ↓reduceIte, eq_self, not_true_eq_false, not_false_eq_true, and_true, true_and, and_false, false_and, Nat.add_zero, Nat.zero_add]
      · have e := M_low (σ := z_h S2 (z_up I2 83 0 (z_n 0)) J2 P2 n2) (A := ((z_pick I J (z_n 3) (z_n 0) 0 0 * z_alln I J (z_n 3) (z_n 1) 0 : Nat) - (z_pick I J (z_n 3) (z_n 1) 0 0 * z_alln I J (z_n 3) (z_n 0) 0 : Nat))) (b := z_alln I J (z_n 3) (z_n 0) 0 * z_alln I J (z_n 3) (z_n 1) 0) (what := d) (by omega) (by omega) (by omega) hd
        unfold z_fr at e
        rw [if_neg (by omega)] at e
        rw [← z_z_sub, Int.natCast_mul, Int.natCast_mul, Int.natCast_mul, ← z_z_mul, ← z_z_mul, ← z_z_mul] at e
        have b0 := a0; have b1 := a1; have b2 := a2; have b3 := a3
        simp only [z_pick, z_alln, Nat.sub_zero, e1, Int.natCast_mul] at e b0 b1 b2 b3 p1 p2 ⊢
        simp (disch := omega) only [f_Mo_lean, M_thr hS2, z_ob (s_83 hS2), co0, co, M_wi, hw, z_cast, z_z0, z_zpos, p1, p2, M_r0 hS2, z_up_s, e, or_true, true_or, or_false, false_or, z_b_T, z_b_F, Bool.false_eq_true, Classical.not_not, decide_eq_true_eq, z_sq, Option.bind_some, z_lits, z_n_add, z_n_mul, z_lt, z_le, z_eq, z_ne1, z_1ne, z_lt1, z_1lt, z_ltT, z_ltF, z_leT, z_leF, z_eqF, z_b_0, z_b_1, ↓reduceIte, eq_self, not_true_eq_false, not_false_eq_true, and_true, true_and, and_false, false_and, Nat.add_zero, Nat.zero_add]
  · have hr : r = none ∨ z_wi d 1 = false := by
      rcases c4 with ⟨-, h⟩ | ⟨p1, p2, -⟩
      · exact Or.inl h
      · right
        cases e : z_wi d 1 with
        | false => rfl
        | true => exact absurd ⟨e, p1, p2⟩ hz
    have m' : z_mf I2 J2 (z_up I2 83 0 (z_n 1)) J2 := z_mf.up rfl
    have co0 := M_count B hS2 hP2 cg3 (n' := (n2.1 + 1, n2.2 + 6))
    have co := M_count B hS2 hP2 (cg3.trans m'.cg) (n' := (n2.1 + 1, n2.2 + 6))
    refine z_prt.thr' (S' := S2) (I' := I2) (J' := J2) (P' := P2) (n' := (n2.1 + 1, n2.2 + 6)) (r2 := z_n 0) (cls _ ?_) g.x0 bnd ?_ m' (z_up_s _ _ _ _)
    · rcases hr with rfl | hw
      · rfl
      · cases r with
        | none => rfl
        | some x =>
          simp (disch := omega) only [C_wi, hw, z_thr, or_true, true_or, or_false, false_or, z_b_T, z_b_F, Bool.false_eq_true, Classical.not_not, decide_eq_true_eq, z_sq, Option.bind_some, z_lits, z_n_add, z_n_mul, z_lt, z_le, z_eq, z_ne1, z_1ne, z_lt1, z_1lt, z_ltT, z_ltF, z_leT, z_leF, z_eqF, z_b_0, z_b_1, ↓reduceIte, eq_self, not_true_eq_false, not_false_eq_true, and_true, true_and, and_false, false_and, Nat.add_zero, Nat.zero_add]
    · have b1 := a1; have b3 := a3
      simp only [z_alln, Nat.sub_zero] at b1 b3 hz
      by_cases hw : z_wi d 1 = true
      · by_cases p1 : 0 < z_co I J (z_n 3) (z_n 0) (-z_n 1) (z_n 31) (z_n 2)
        · have p2 : ¬ 0 < z_co I J (z_n 3) (z_n 1) (-z_n 1) (z_n 31) (z_n 2) := fun p2 => hz ⟨hw, p1, p2⟩
          simp (disch := omega) only [f_Mo_lean, M_thr hS2, z_ob (s_83 hS2), co0, co, M_wi, hw, z_cast, z_z0, z_zpos, p1, p2, M_r0 hS2, z_up_s, or_true, true_or, or_false, false_or, z_b_T, z_b_F, Bool.false_eq_true, Classical.not_not, decide_eq_true_eq, z_sq, Option.bind_some, z_lits, z_n_add, z_n_mul, z_lt, z_le, z_eq, z_ne1, z_1ne, z_lt1, z_1lt, z_ltT, z_ltF, z_leT, z_leF, z_eqF, z_b_0, z_b_1, ↓reduceIte, eq_self, not_true_eq_false, not_false_eq_true, and_true, true_and, and_false, false_and, Nat.add_zero, Nat.zero_add]
        · simp (disch := omega) only [f_Mo_lean, M_thr hS2, z_ob (s_83 hS2), co0, co, M_wi, hw, z_cast, z_z0, z_zpos, p1, M_r0 hS2, z_up_s, or_true, true_or, or_false, false_or, z_b_T, z_b_F, Bool.false_eq_true, Classical.not_not, decide_eq_true_eq, z_sq, Option.bind_some, z_lits, z_n_add, z_n_mul, z_lt, z_le, z_eq, z_ne1, z_1ne, z_lt1, z_1lt, z_ltT, z_ltF, z_leT, z_leF, z_eqF, z_b_0, z_b_1, ↓reduceIte, eq_self, not_true_eq_false, not_false_eq_true, and_true, true_and, and_false, false_and, Nat.add_zero, Nat.zero_add]
      · simp (disch := omega) only [f_Mo_lean, M_thr hS2, z_ob (s_83 hS2), co0, co, M_wi, hw, z_cast, z_z0, z_zpos, M_r0 hS2, z_up_s, or_true, true_or, or_false, false_or, z_b_T, z_b_F, Bool.false_eq_true, Classical.not_not, decide_eq_true_eq, z_sq, Option.bind_some, z_lits, z_n_add, z_n_mul, z_lt, z_le, z_eq, z_ne1, z_1ne, z_lt1, z_1lt, z_ltT, z_ltF, z_leT, z_leF, z_eqF, z_b_0, z_b_1, ↓reduceIte, eq_self, not_true_eq_false, not_false_eq_true, and_true, true_and, and_false, false_and, Nat.add_zero, Nat.zero_add]
end
