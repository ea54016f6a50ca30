/-! move, mover, bounds, next. -/
section
variable {S : z_SH} {I : z_MI} {J : z_MJ} {P : z_MP} {K : Nat → Bool} {n : Nat × Nat}
/-- counts of one SHEET alone, and without one -/
def z_one (I : z_MI) (J : z_MJ) (s : Nat) (so : Nat) : Nat := z_sum 5 fun q => z_sum 3 fun t => z_w (z_n so) (z_n 2) q t * d_ct (z_Ds I J s) q t
theorem z_ii0 {I : z_MI} {s : Nat} : z_ii I s (z_n 0) (z_n 0) = z_th I s := by
  unfold z_ii
  simp
theorem z_sum_wo (f : Nat → Nat) (p : Nat → Bool) (s : Nat) : ∀ N, (z_sum N fun i => if p i = true then f i else 0) = (z_sum N fun i => if ¬ i = s ∧ p i = true then f i else 0) + if s < N ∧ p s = true then f s else 0
  | 0 => by simp [z_sum]
  | N + 1 => by
    rw [z_sum_s, z_sum_s, z_sum_wo f p s N]
    generalize (z_sum N fun i => if ¬ i = s ∧ p i = true then f i else 0) = A
    by_cases h : N = s
    · subst h
      by_cases hp : p N = true <;> simp [hp]
    · have e : (s < N + 1) = (s < N) := propext (by omega)
      by_cases hp : p N = true <;> by_cases h2 : s < N <;> by_cases h3 : p s = true <;> simp [h, hp, h2, h3, e] <;> omega
theorem z_co_wo {I : z_MI} (J : z_MJ) (so : Nat) {s : Nat} (hs : s < 24) (ht : z_th I s = true) : z_co I J (z_n 0) (z_n 0) (-z_n 1) (z_n so) (z_n 2) = z_co I J (z_n 0) (z_n 0) (z_n s) (z_n so) (z_n 2) + z_one I J s so := by
  have h := z_sum_wo (fun i => z_one I J i so) (fun i => z_th I i) s 24
  rw [if_pos ⟨hs, ht⟩] at h
  unfold z_co
  have e1 : z_sum 24 (z_cs I J (z_n 0) (z_n 0) (-z_n 1) (z_n so) (z_n 2)) = z_sum 24 (fun i => if z_th I i = true then z_one I J i so else 0) := by
    refine z_sum_eq (fun i hi => ?_)
    rw [z_cs_D, z_ii0]
    simp (disch := omega) only [z_ne1, not_false_eq_true, true_and]
    rfl
  have e2 : z_sum 24 (z_cs I J (z_n 0) (z_n 0) (z_n s) (z_n so) (z_n 2)) = z_sum 24 (fun i => if ¬ i = s ∧ z_th I i = true then z_one I J i so else 0) := by
    refine z_sum_eq (fun i hi => ?_)
    rw [z_cs_D, z_ii0]
    simp (disch := omega) only [z_eq]
    rfl
  rw [e1, e2]; exact h
/-- a page's own tally -/
theorem z_one_31 (I : z_MI) (J : z_MJ) (s : Nat) : z_one I J s 31 = z_sum 5 fun q => z_sum 3 (d_ct (z_Ds I J s) q) := by
  unfold z_one
  refine z_sum_eq (fun q hq => ?_)
  refine Eq.trans ?_ (z_s3 _ 0 (by omega))
  exact z_sum_eq (fun t ht => by rw [show z_n 2 = z_n (2 - 0) from rfl, z_w_all 0 (by omega) q hq t ht])
theorem z_one_1 (I : z_MI) (J : z_MJ) (s : Nat) : z_one I J s 1 = z_sum 3 (d_ct (z_Ds I J s) 0) := by
  unfold z_one
  have e : ∀ q, q < 5 → (z_sum 3 fun t => z_w (z_n 1) (z_n 2) q t * d_ct (z_Ds I J s) q t) = if q = 0 then z_sum 3 (d_ct (z_Ds I J s) q) else 0 := by
    intro q hq
    refine (z_sum_eq (fun t ht => by rw [show z_n 2 = z_n (2 - 0) from rfl, z_w_1 0 (by omega) q hq t ht])).trans ?_
    by_cases k : q = 0
    · subst k; simp [z_sum]
    · simp [z_sum, k]
  rw [z_sum_eq e]
  simp [z_sum]
/-- MOVE: what of it is above, below -/
def z_mva (I : z_MI) (J : z_MJ) (s : Nat) : Int := (z_co I J (z_n 0) (z_n 0) (z_n s) (z_n 1) (z_n 2) * z_alln I J (z_n 0) (z_n 0) 0 : Nat) - (z_pick I J (z_n 0) (z_n 0) 0 0 * z_co I J (z_n 0) (z_n 0) (z_n s) (z_n 31) (z_n 2) : Nat)
def z_mvb (I : z_MI) (J : z_MJ) (s : Nat) : Nat := z_co I J (z_n 0) (z_n 0) (z_n s) (z_n 31) (z_n 2) * z_alln I J (z_n 0) (z_n 0) 0
theorem z_mva_le (B : z_B S I J P K n.1) (s : Nat) : (z_mva I J s).natAbs ≤ 82944 := by
  have m1 : z_co I J (z_n 0) (z_n 0) (z_n s) (z_n 1) (z_n 2) * z_alln I J (z_n 0) (z_n 0) 0 ≤ 288 * 288 := Nat.mul_le_mul (z_co_le J B.qL _ _ _ _ _) (z_alln_le B _ _ _)
  have m2 : z_pick I J (z_n 0) (z_n 0) 0 0 * z_co I J (z_n 0) (z_n 0) (z_n s) (z_n 31) (z_n 2) ≤ 288 * 288 := Nat.mul_le_mul (z_pick_le B _ _ _ _) (z_co_le J B.qL _ _ _ _ _)
  unfold z_mva; omega
theorem z_mvb_le (B : z_B S I J P K n.1) (s : Nat) : z_mvb I J s ≤ 82944 := Nat.mul_le_mul (z_co_le J B.qL _ _ _ _ _) (z_alln_le B _ _ _)
-- the class's MOVE of a SHEET, behind the sum of all (in t)
set_option maxRecDepth 100000 in
set_option maxHeartbeats 4000000 in
theorem C_moveOf (B : z_B S I J P K n.1) {I0 : z_MI} {J0 : z_MJ} (c0 : z_cg I0 J0 I J) {t s : Nat} (h : z_ty S I P t (z_ct I0 J0 (z_n 0) (z_n 0) 24)) (hs : s < 24) : ∃ r S' I' J' P' n', f_Rs_moveOf 8 (z_n s) t (z_h S I J P n) = some (r, z_h S' I' J' P' n') ∧ z_ag n.1 z_nil S I J P S' I' J' P' ∧ (n.1 ≤ n'.1 ∧ n'.1 ≤ n.1 + 1 ∧ n'.2 ≤ n.2 + 2) ∧
    (((z_th I0 s = false ∨ z_mvb I0 J0 s = 0) ∧ r = none) ∨ (z_th I0 s = true ∧ 0 < z_mvb I0 J0 s ∧ ∃ x, r = some x ∧ (n.1 ≤ x ∧ x < n'.1) ∧ z_rt S' J' x (z_mva I0 J0 s) (z_mvb I0 J0 s))) := by
  have hS := B.qS
  have hP := B.qP
  have hn := B.qn
  have e8 : q_gr (q_gf (z_h S I J P n) 0 8 3) = some 13 := z_gr (s_8 hS) rfl (p_8_3 hP)
  rcases B.pg hs with ⟨h1, h2⟩ | ⟨h1, p, h2, h3⟩
  · refine ⟨none, S, I, J, P, n, ?_, z_ag.refl _ _ _ _ _ _, ⟨by omega, by omega, by omega⟩, Or.inl ⟨Or.inl (by rw [← z_th_c c0]; exact h1), rfl⟩⟩
    simp (disch := omega) only [f_Rs_moveOf, e8, z_ob (s_13 hS), C_pageOf hS hP hs, h2, or_true, true_or, or_false, false_or, z_b_T, z_b_F, Bool.false_eq_true, Classical.not_not, decide_eq_true_eq, z_sq, Option.bind_some, z_lits, z_n_add, z_n_mul, z_lt, z_le, z_eq, z_ne1, z_1ne, z_lt1, z_1lt, z_ltT, z_ltF, z_leT, z_leF, z_eqF, z_b_0, z_b_1, ↓reduceIte, eq_self, not_true_eq_false, not_false_eq_true, and_true, true_and, and_false, false_and, Nat.add_zero, Nat.zero_add]
  · have ht0 : z_th I0 s = true := by rw [← z_th_c c0]; exact h1
    have hL0 : z_lL I0 := z_lL_c c0.symm B.qL
    have r3 := z_ps_r h3.2.1
    rw [z_Ds_c c0] at h3
    have b1 : z_pick I0 J0 (z_n 0) (z_n 0) 0 0 ≤ 288 := z_co_le J0 hL0 _ _ _ _ _
    have b2 : z_alln I0 J0 (z_n 0) (z_n 0) 0 ≤ 288 := z_co_le J0 hL0 _ _ _ _ _
    have w1 := z_co_wo J0 31 hs ht0
    have w2 := z_co_wo J0 1 hs ht0
    have k1 := C_picked (J := J) (n := n) h3.ty (lv := 0) (how := 0) (by omega) (by omega)
    have k2 := C_all (J := J) (n := n) h3.ty (lv := 0) (by omega)
    rw [Nat.sub_zero, ← z_one_31] at k2
    rw [Nat.sub_zero, ← z_one_1] at k1
    simp only [show ¬ 1 ≤ 0 by omega, show ¬ 2 ≤ 0 by omega, if_false, Nat.add_zero] at k1
    have e1 : z_pick I0 J0 (z_n 0) (z_n 0) 0 0 - z_one I0 J0 s 1 = z_co I0 J0 (z_n 0) (z_n 0) (z_n s) (z_n 1) (z_n 2) := by
      have : z_pick I0 J0 (z_n 0) (z_n 0) 0 0 = z_co I0 J0 (z_n 0) (z_n 0) (-z_n 1) (z_n 1) (z_n 2) := rfl
      omega
    have e2 : z_alln I0 J0 (z_n 0) (z_n 0) 0 - z_one I0 J0 s 31 = z_co I0 J0 (z_n 0) (z_n 0) (z_n s) (z_n 31) (z_n 2) := by
      have : z_alln I0 J0 (z_n 0) (z_n 0) 0 = z_co I0 J0 (z_n 0) (z_n 0) (-z_n 1) (z_n 31) (z_n 2) := rfl
      omega
    have e3 : z_one I0 J0 s 1 ≤ z_pick I0 J0 (z_n 0) (z_n 0) 0 0 := by
      have : z_pick I0 J0 (z_n 0) (z_n 0) 0 0 = z_co I0 J0 (z_n 0) (z_n 0) (-z_n 1) (z_n 1) (z_n 2) := rfl
      omega
    have e4 : z_one I0 J0 s 31 ≤ z_alln I0 J0 (z_n 0) (z_n 0) 0 := by
      have : z_alln I0 J0 (z_n 0) (z_n 0) 0 = z_co I0 J0 (z_n 0) (z_n 0) (-z_n 1) (z_n 31) (z_n 2) := rfl
      omega
    have b3 : z_co I0 J0 (z_n 0) (z_n 0) (z_n s) (z_n 1) (z_n 2) ≤ 288 := z_co_le J0 hL0 _ _ _ _ _
    have b4 : z_co I0 J0 (z_n 0) (z_n 0) (z_n s) (z_n 31) (z_n 2) ≤ 288 := z_co_le J0 hL0 _ _ _ _ _
    obtain ⟨r, S', I', J', P', n', d1, d2, d3, d4⟩ := C_Ra_diff (S := S) (I := I) (J := J) (P := P) (n := n) (a := z_co I0 J0 (z_n 0) (z_n 0) (z_n s) (z_n 1) (z_n 2)) (b := z_co I0 J0 (z_n 0) (z_n 0) (z_n s) (z_n 31) (z_n 2)) (c := z_pick I0 J0 (z_n 0) (z_n 0) 0 0) (d := z_alln I0 J0 (z_n 0) (z_n 0) 0) (by omega) (by omega) (by omega) (by omega) (by omega)
    refine ⟨r, S', I', J', P', n', ?_, d2, d3, ?_⟩
    · simp (disch := omega) only [f_Rs_moveOf, e8, z_ob (s_13 hS), C_pageOf hS hP hs, h2, h.r.1, C_picked' h, C_all' h, r3, k1, k2, z_n_sub, e1, e2, z_cast, d1, or_true, true_or, or_false, false_or, z_b_T, z_b_F, Bool.false_eq_true, Classical.not_not, decide_eq_true_eq, z_sq, Option.bind_some, z_lits, z_n_add, z_n_mul, z_lt, z_le, z_eq, z_ne1, z_1ne, z_lt1, z_1lt, z_ltT, z_ltF, z_leT, z_leF, z_eqF, z_b_0, z_b_1, ↓reduceIte, eq_self, not_true_eq_false, not_false_eq_true, and_true, true_and, and_false, false_and, Nat.add_zero, Nat.zero_add]
    · rcases d4 with ⟨q, rfl⟩ | ⟨q1, q2, x, rfl, q3, q4⟩
      · left
        refine ⟨Or.inr ?_, rfl⟩
        unfold z_mvb
        rcases q with q | q
        · rw [q, Nat.zero_mul]
        · rw [q, Nat.mul_zero]
      · right
        exact ⟨ht0, Nat.mul_pos q1 q2, x, rfl, q3, q4⟩
end
