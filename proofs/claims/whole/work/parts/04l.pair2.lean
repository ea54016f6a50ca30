/-! share, born, lean, move, mover, bounds. -/
section
variable {S : z_SH} {I : z_MI} {J : z_MJ} {P : z_MP} {K : Nat → Bool} {n : Nat × Nat}
/-- the answer of a fraction that may be none -/
def z_fr (A : Int) (b : Nat) (what : Int32) : Int32 := if b = 0 then -z_n 1 else z_pa A b what
theorem z_fr_o {A : Int} {b : Nat} {what : Int32} (h : z_o what 1) : z_fr A b what = -z_n 1 := by
  unfold z_fr z_pa
  have h1 : ¬ (what = z_n 0 ∨ what = z_n 1) := by rw [← z_wi1, z_wi_o h]; simp
  split
  · rfl
  · rw [if_neg (fun e => h1 (Or.inl e)), if_neg (fun e => h1 (Or.inr e))]
set_option maxRecDepth 100000 in
set_option maxHeartbeats 4000000 in
theorem C_ratio {A : Int} {b : Nat} {what : Int32} (hA : A.natAbs ≤ 200000000000000000) (hb : b ≤ 200000000000000000) (h8 : 8 ≤ n.1) : ∃ r S' I' J' P' n', f_Ra_of (z_z A) (z_z b) (z_h S I J P n) = some (r, z_h S' I' J' P' n') ∧ f_Rs_partOf r what (z_h S' I' J' P' n') = some (z_fr A b what, z_h S' I' J' P' n') ∧ z_ag n.1 z_nil S I J P S' I' J' P' ∧ (n.1 ≤ n'.1 ∧ n'.1 ≤ n.1 + 1 ∧ n'.2 ≤ n.2 + 2) := by
  obtain ⟨r, S', I', J', P', n', h1, h2, h3, h4⟩ := C_Ra_of (S := S) (I := I) (J := J) (P := P) (n := n) hA hb h8
  refine ⟨r, S', I', J', P', n', h1, ?_, h2, h3⟩
  rcases h4 with ⟨h5, rfl⟩ | ⟨h5, x, rfl, -, h6⟩
  · unfold z_fr
    rw [if_pos h5]; rfl
  · unfold z_fr
    rw [if_neg (by omega), C_partOf h6]
theorem M_low {A : Int} {b : Nat} {what : Int32} {σ : q_H} (hA : A.natAbs ≤ 200000000000000000) (hb : b ≤ 200000000000000000) (h0 : ¬ b = 0) (hw : what = z_n 0 ∨ what = z_n 1) : (q_sq (f_Mo_lowest (z_z A) (z_z b) what σ) fun x σ => some (x.toInt32, σ)) = some (z_fr A b what, σ) := by
  rw [M_lowest hA hb (by omega), z_sq, z_ra_pa hw]
  unfold z_fr
  rw [if_neg h0]
theorem z_d1 {d : Int32} : (d = z_n 0 ∨ d = z_n 1) ∨ z_o d 1 := by
  rcases z_in d 1 (by omega) with ⟨k, hk, rfl⟩ | h
  · left
    have : k = 0 ∨ k = 1 := by omega
    rcases this with rfl | rfl
    · exact Or.inl rfl
    · exact Or.inr rfl
  · exact Or.inr h
theorem M_wi1 {d : Int32} {σ : q_H} (h : d = z_n 0 ∨ d = z_n 1) : f_Mo_within d (z_n 0) (z_n 1) σ = some (z_n 1, σ) := by
  rcases h with rfl | rfl
  · exact M_win (by omega) (by omega)
  · exact M_win (by omega) (by omega)
theorem M_sorts {x : Nat} {σ : q_H} (h : x ≤ 2) : f_Mo_sorts (z_n x) σ = some (z_n (z_hw x), σ) := by
  have : x = 0 ∨ x = 1 ∨ x = 2 := by omega
  rcases this with rfl | rfl | rfl <;> rfl
def z_pick (I : z_MI) (J : z_MJ) (a b : Int32) (lv how : Nat) : Nat := z_co I J a b (-z_n 1) (z_n (z_hw how)) (z_n (2 - lv))
def z_alln (I : z_MI) (J : z_MJ) (a b : Int32) (lv : Nat) : Nat := z_co I J a b (-z_n 1) (z_n 31) (z_n (2 - lv))
theorem z_pick_le (B : z_B S I J P K n.1) (a b : Int32) (lv how : Nat) : z_pick I J a b lv how ≤ 288 := z_co_le J B.qL _ _ _ _ _
theorem z_alln_le (B : z_B S I J P K n.1) (a b : Int32) (lv : Nat) : z_alln I J a b lv ≤ 288 := z_co_le J B.qL _ _ _ _ _
theorem C_picked' {t lv how : Nat} {a b : Int32} {I0 : z_MI} {J0 : z_MJ} (h : z_ty S I P t (z_ct I0 J0 a b 24)) (hl : lv ≤ 2) (hh : how ≤ 2) : f_Ty_picked t (z_n how) (z_n lv) (z_h S I J P n) = some (z_n (z_pick I0 J0 a b lv how), z_h S I J P n) := by
  rw [C_picked h hl hh, z_pick, z_co_pick I0 J0 a b (by omega) hh]
theorem C_all' {t lv : Nat} {a b : Int32} {I0 : z_MI} {J0 : z_MJ} (h : z_ty S I P t (z_ct I0 J0 a b 24)) (hl : lv ≤ 2) : f_Ty_all t (z_n lv) (z_h S I J P n) = some (z_n (z_alln I0 J0 a b lv), z_h S I J P n) := by
  rw [C_all h hl, z_alln, z_co_all I0 J0 a b (by omega)]
theorem z_cast {x : Nat} (h : x ≤ 1000000) : (z_n x).toInt64 = z_z x := z_z32 (by omega)
set_option maxRecDepth 100000 in
set_option maxHeartbeats 4000000 in
theorem X_share (B : z_B S I J P K n.1) (a b c d : Int32) : z_pr (f_Rs_share 8 a b c d) (f_Mo_share 83 a b c d) S I J P K n := by
  have hS := B.qS
  have hP := B.qP
  have hn := B.qn
  have m : z_mf I J (z_up I 83 0 (z_n 0)) J := z_mf.up rfl
  by_cases hs : z_sc a b = true
  · rcases z_in c 2 (by omega) with ⟨x, hx, rfl⟩ | ho
    · obtain ⟨S', I', J', P', h1, h2, h3, hS', hP', cg⟩ := C_gat B hs
      have b1 := z_pick_le B a b 0 x
      have b2 := z_alln_le B a b 0
      obtain ⟨r, S2, I2, J2, P2, n2, k1, k2, k3, k4⟩ := C_ratio (S := S') (I := I') (J := J') (P := P') (n := (n.1 + 2, n.2 + 16)) (A := (z_pick I J a b 0 x : Nat)) (b := z_alln I J a b 0) (what := d) (by omega) (by omega) (by simp; omega)
      have g := h2.trans (by simp) k3
      have m' : z_mf I2 J2 (z_up I2 83 0 (z_n 0)) J2 := z_mf.up rfl
      have cg2 := g.cg (K := K) z_keep0 B.2.2.1.2 hn
      have hS2 := hS.mono g hn
      have co := M_count B hS2 (hP.mono g hn) (cg2.trans m'.cg) (n' := n2) a b
      refine ⟨z_fr (z_pick I J a b 0 x : Nat) (z_alln I J a b 0) d, S2, I2, J2, P2, n2, _, _, ?_, ?_, g.x0, ⟨by simp at k4; omega, by simp at k4; omega, by simp at k4; omega⟩, m'⟩
      · simp (disch := omega) only [f_Rs_share, C_isScope, hs, C_in, C_gat8 hS, h1, h3.r.1, C_picked' h3, C_all' h3, z_cast, k1, k2, or_true, true_or, or_false, false_or, z_b_T, z_b_F, Bool.false_eq_true, Classical.not_not, decide_eq_true_eq, z_sq, Option.bind_some, z_lits, z_n_add, z_n_mul, z_lt, z_le, z_eq, z_ne1, z_1ne, z_lt1, z_1lt, z_ltT, z_ltF, z_leT, z_leF, z_eqF, z_b_0, z_b_1, ↓reduceIte, eq_self, not_true_eq_false, not_false_eq_true, and_true, true_and, and_false, false_and, Nat.add_zero, Nat.zero_add]
      · rcases z_d1 (d := d) with hd | hd
        · by_cases h0 : z_alln I J a b 0 = 0
          · have h0' : z_co I J a b (-z_n 1) (z_n 31) (z_n 2) = 0 := h0
            simp (disch := omega) only [f_Mo_share, M_thr hS2, z_ob (s_83 hS2), M_isScope, hs, M_win, M_wi1 hd, co, h0', or_true, true_or, or_false, false_or, z_b_T, z_b_F, Bool.false_eq_true, Classical.not_not, decide_eq_true_eq, z_sq, Option.bind_some, z_lits, z_n_add, z_n_mul, z_lt, z_le, z_eq, z_ne1, z_1ne, z_lt1, z_1lt, z_ltT, z_ltF, z_leT, z_leF, z_eqF, z_b_0, z_b_1, ↓reduceIte, eq_self, not_true_eq_false, not_false_eq_true, and_true, true_and, and_false, false_and, Nat.add_zero, Nat.zero_add]
            unfold z_fr
            rw [if_pos h0]
          · have h0' : ¬ z_co I J a b (-z_n 1) (z_n 31) (z_n 2) = 0 := h0
            have e := M_low (σ := z_h S2 (z_up I2 83 0 (z_n 0)) J2 P2 n2) (A := (z_pick I J a b 0 x : Nat)) (b := z_alln I J a b 0) (what := d) (by omega) (by omega) h0 hd
            simp only [z_pick, z_alln, Nat.sub_zero] at e b1 b2
            simp (disch := omega) only [f_Mo_share, M_thr hS2, z_ob (s_83 hS2), M_isScope, hs, M_win, M_wi1 hd, M_sorts hx, co, h0', z_cast, e, or_true, true_or, or_false, false_or, z_b_T, z_b_F, Bool.false_eq_true, Classical.not_not, decide_eq_true_eq, z_sq, Option.bind_some, z_lits, z_n_add, z_n_mul, z_lt, z_le, z_eq, z_ne1, z_1ne, z_lt1, z_1lt, z_ltT, z_ltF, z_leT, z_leF, z_eqF, z_b_0, z_b_1, ↓reduceIte, eq_self, not_true_eq_false, not_false_eq_true, and_true, true_and, and_false, false_and, Nat.add_zero, Nat.zero_add]
            rfl
        · rw [z_fr_o hd]
          simp (disch := omega) only [f_Mo_share, M_thr hS2, z_ob (s_83 hS2), M_isScope, hs, M_win, M_wout hd, or_true, true_or, or_false, false_or, z_b_T, z_b_F, Bool.false_eq_true, Classical.not_not, decide_eq_true_eq, z_sq, Option.bind_some, z_lits, z_n_add, z_n_mul, z_lt, z_le, z_eq, z_ne1, z_1ne, z_lt1, z_1lt, z_ltT, z_ltF, z_leT, z_leF, z_eqF, z_b_0, z_b_1, ↓reduceIte, eq_self, not_true_eq_false, not_false_eq_true, and_true, true_and, and_false, false_and, Nat.add_zero, Nat.zero_add]
    · refine z_pr.same (r := -z_n 1) ?_ ?_ m
      · simp (disch := omega) only [f_Rs_share, C_isScope, hs, C_out ho, or_true, true_or, or_false, false_or, z_b_T, z_b_F, Bool.false_eq_true, Classical.not_not, decide_eq_true_eq, z_sq, Option.bind_some, z_lits, z_n_add, z_n_mul, z_lt, z_le, z_eq, z_ne1, z_1ne, z_lt1, z_1lt, z_ltT, z_ltF, z_leT, z_leF, z_eqF, z_b_0, z_b_1, ↓reduceIte, eq_self, not_true_eq_false, not_false_eq_true, and_true, true_and, and_false, false_and, Nat.add_zero, Nat.zero_add]
      · simp (disch := omega) only [f_Mo_share, M_thr hS, z_ob (s_83 hS), M_isScope, hs, M_wout ho, or_true, true_or, or_false, false_or, z_b_T, z_b_F, Bool.false_eq_true, Classical.not_not, decide_eq_true_eq, z_sq, Option.bind_some, z_lits, z_n_add, z_n_mul, z_lt, z_le, z_eq, z_ne1, z_1ne, z_lt1, z_1lt, z_ltT, z_ltF, z_leT, z_leF, z_eqF, z_b_0, z_b_1, ↓reduceIte, eq_self, not_true_eq_false, not_false_eq_true, and_true, true_and, and_false, false_and, Nat.add_zero, Nat.zero_add]
  · refine z_pr.same (r := -z_n 1) ?_ ?_ m
    · simp (disch := omega) only [f_Rs_share, C_isScope, hs, or_true, true_or, or_false, false_or, z_b_T, z_b_F, Bool.false_eq_true, Classical.not_not, decide_eq_true_eq, z_sq, Option.bind_some, z_lits, z_n_add, z_n_mul, z_lt, z_le, z_eq, z_ne1, z_1ne, z_lt1, z_1lt, z_ltT, z_ltF, z_leT, z_leF, z_eqF, z_b_0, z_b_1, ↓reduceIte, eq_self, not_true_eq_false, not_false_eq_true, and_true, true_and, and_false, false_and, Nat.add_zero, Nat.zero_add]
    · simp (disch := omega) only [f_Mo_share, M_thr hS, z_ob (s_83 hS), M_isScope, hs, or_true, true_or, or_false, false_or, z_b_T, z_b_F, Bool.false_eq_true, Classical.not_not, decide_eq_true_eq, z_sq, Option.bind_some, z_lits, z_n_add, z_n_mul, z_lt, z_le, z_eq, z_ne1, z_1ne, z_lt1, z_1lt, z_ltT, z_ltF, z_leT, z_leF, z_eqF, z_b_0, z_b_1, ↓reduceIte, eq_self, not_true_eq_false, not_false_eq_true, and_true, true_and, and_false, false_and, Nat.add_zero, Nat.zero_add]
end
