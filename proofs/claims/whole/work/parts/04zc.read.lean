/-! READINGS as rows. -/
def u_rc (va : Nat → Bool) : Nat → Nat
  | 0 => 0
  | k + 1 => u_rc va k + if va k = true then 1 else 0
def u_wr (va : Nat → Bool) (v : Nat → Nat) (h : Nat → Int32) : Nat → Nat → Int32
  | 0 => h
  | k + 1 => if va k = true then (fun j => if j = u_rc va k then z_n (v k) else u_wr va v h k j) else u_wr va v h k
def u_vl (va : Nat → Bool) (v : Nat → Nat) : Nat → Nat → Nat
  | 0, _ => 0
  | k + 1, j => if va k = true ∧ j = u_rc va k then v k else u_vl va v k j
theorem u_rc_le (va : Nat → Bool) : ∀ k, u_rc va k ≤ k
  | 0 => Nat.le_refl _
  | k + 1 => by
    have := u_rc_le va k
    rw [u_rc]; split <;> omega
theorem u_rc_mono (va : Nat → Bool) (k : Nat) : ∀ d, u_rc va k ≤ u_rc va (k + d)
  | 0 => Nat.le_refl _
  | d + 1 => by
    have := u_rc_mono va k d
    rw [← Nat.add_assoc, u_rc]; omega
theorem u_wr_vl (va : Nat → Bool) (v : Nat → Nat) (h : Nat → Int32) : ∀ k j, j < u_rc va k → u_wr va v h k j = z_n (u_vl va v k j)
  | 0, j, hj => absurd hj (Nat.not_lt_zero _)
  | k + 1, j, hj => by
    rw [u_rc] at hj
    rw [u_wr, u_vl]
    by_cases hv : va k = true
    · rw [if_pos hv] at hj ⊢
      by_cases e : j = u_rc va k
      · rw [if_pos e, if_pos ⟨hv, e⟩]
      · rw [if_neg e, if_neg (fun q => e q.2)]
        exact u_wr_vl va v h k j (by omega)
    · rw [if_neg hv] at hj ⊢
      rw [if_neg (fun q => hv q.1)]
      exact u_wr_vl va v h k j (by omega)
theorem u_vl_le {va : Nat → Bool} {v : Nat → Nat} {b : Nat} (hb : ∀ k, v k ≤ b) : ∀ k j, u_vl va v k j ≤ b
  | 0, j => Nat.zero_le _
  | k + 1, j => by
    rw [u_vl]; split
    · exact hb k
    · exact u_vl_le hb k j
theorem u_vl_pos {va : Nat → Bool} {v : Nat → Nat} (hp : ∀ k, va k = true → 0 < v k) : ∀ k j, j < u_rc va k → 0 < u_vl va v k j
  | 0, j, hj => absurd hj (Nat.not_lt_zero _)
  | k + 1, j, hj => by
    rw [u_rc] at hj
    rw [u_vl]
    by_cases e : va k = true ∧ j = u_rc va k
    · rw [if_pos e]; exact hp k e.1
    · rw [if_neg e]
      refine u_vl_pos hp k j ?_
      by_cases hv : va k = true
      · rw [if_pos hv] at hj
        have : j ≠ u_rc va k := fun q => e ⟨hv, q⟩
        omega
      · rw [if_neg hv] at hj; omega
theorem u_wr_up (I : z_MI) (a : Nat) (va : Nat → Bool) (v : Nat → Nat) (h : Nat → Int32) {k : Nat} (hv : va k = true) : z_up (z_ri I a (u_wr va v h k)) a (u_rc va k) (z_n (v k)) = z_ri I a (u_wr va v h (k + 1)) := by
  rw [z_up_ri, u_wr, if_pos hv]
/-- sums of one SHEET, weighed -/
def z_on2 (I : z_MI) (J : z_MJ) (s : Nat) (so tk : Int32) : Nat := z_sum 5 fun q => z_sum 3 fun t => z_w so tk q t * d_ct (z_Ds I J s) q t
theorem z_co_wo2 {I : z_MI} (J : z_MJ) (so tk : Int32) {s : Nat} (hs : s < 24) (ht : z_th I s = true) : z_co I J (z_n 0) (z_n 0) (-z_n 1) so tk = z_co I J (z_n 0) (z_n 0) (z_n s) so tk + z_on2 I J s so tk := by
  have h := z_sum_wo (fun i => z_on2 I J i so tk) (fun i => z_th I i) s 24
  rw [if_pos ⟨hs, ht⟩] at h
  unfold z_co
  have e1 : z_sum 24 (z_cs I J (z_n 0) (z_n 0) (-z_n 1) so tk) = z_sum 24 (fun i => if z_th I i = true then z_on2 I J i so tk else 0) := by
    refine z_sum_eq (fun i hi => ?_)
    rw [z_cs_D, z_ii0]
    simp (disch := omega) only [z_ne1, not_false_eq_true, true_and]
    rfl
  have e2 : z_sum 24 (z_cs I J (z_n 0) (z_n 0) (z_n s) so tk) = z_sum 24 (fun i => if ¬ i = s ∧ z_th I i = true then z_on2 I J i so tk else 0) := by
    refine z_sum_eq (fun i hi => ?_)
    rw [z_cs_D, z_ii0]
    simp (disch := omega) only [z_eq]
    rfl
  rw [e1, e2]; exact h
theorem z_g_all (c : Nat → Nat → Nat) {lv : Nat} (h : lv < 3) : (z_sum 5 fun q => z_sum 3 fun t => z_w (z_n 31) (z_n (2 - lv)) q t * c q t) = z_sum 5 fun q => z_sum (3 - lv) (c q) := by
  refine z_sum_eq (fun q hq => ?_)
  rw [← z_s3 _ lv h]
  exact z_sum_eq (fun t ht => by rw [z_w_all lv h q hq t ht])
theorem z_g_pick (c : Nat → Nat → Nat) {lv how : Nat} (h : lv < 3) (hh : how ≤ 2) : (z_sum 5 fun q => z_sum 3 fun t => z_w (z_n (z_hw how)) (z_n (2 - lv)) q t * c q t) = z_sum (3 - lv) (c 0) + ((if 1 ≤ how then z_sum (3 - lv) (c 2) else 0) + if 2 ≤ how then z_sum (3 - lv) (c 3) else 0) := by
  have e : ∀ q, q < 5 → (z_sum 3 fun t => z_w (z_n (z_hw how)) (z_n (2 - lv)) q t * c q t) = if q = 0 ∨ (1 ≤ how ∧ q = 2) ∨ (2 ≤ how ∧ q = 3) then z_sum (3 - lv) (c q) else 0 := by
    intro q hq
    rw [← z_s3 _ lv h]
    have h3 : how = 0 ∨ how = 1 ∨ how = 2 := by omega
    have h5 : q = 0 ∨ q = 1 ∨ q = 2 ∨ q = 3 ∨ q = 4 := by omega
    rcases h3 with rfl | rfl | rfl
    · refine (z_sum_eq (fun t ht => by rw [show z_n (z_hw 0) = z_n 1 from rfl, z_w_1 lv h q hq t ht])).trans ?_
      rcases h5 with rfl | rfl | rfl | rfl | rfl <;> simp [z_sum]
    · refine (z_sum_eq (fun t ht => by rw [show z_n (z_hw 1) = z_n 5 from rfl, z_w_5 lv h q hq t ht])).trans ?_
      rcases h5 with rfl | rfl | rfl | rfl | rfl <;> simp [z_sum]
    · refine (z_sum_eq (fun t ht => by rw [show z_n (z_hw 2) = z_n 13 from rfl, z_w_13 lv h q hq t ht])).trans ?_
      rcases h5 with rfl | rfl | rfl | rfl | rfl <;> simp [z_sum]
  rw [z_sum_eq e]
  simp [z_sum, Nat.add_assoc]
/-- the k-th of all that could be: how k / 75, TAKEN IN k / 25 % 3, without SHEET k % 25 - 1 -/
def r_wo (k : Nat) : Int32 := if k % 25 = 0 then -z_n 1 else z_n (k % 25 - 1)
def r_bl (I : z_MI) (J : z_MJ) (k : Nat) : Nat := z_co I J (z_n 0) (z_n 0) (r_wo k) (z_n 31) (z_n (2 - k / 25 % 3))
def r_ab (I : z_MI) (J : z_MJ) (k : Nat) : Nat := z_co I J (z_n 0) (z_n 0) (r_wo k) (z_n (z_hw (k / 75))) (z_n (2 - k / 25 % 3))
def r_va (I : z_MI) (J : z_MJ) (k : Nat) : Bool := (decide (k % 25 = 0) || z_th I (k % 25 - 1)) && !decide (r_bl I J k = 0)
section
variable {S : z_SH} {I : z_MI} {J : z_MJ} {P : z_MP} {K : Nat → Bool} {n : Nat × Nat}
theorem r_bl_le (B : z_B S I J P K n.1) (k : Nat) : r_bl I J k ≤ 288 := z_co_le J B.qL _ _ _ _ _
theorem r_ab_le (B : z_B S I J P K n.1) (k : Nat) : r_ab I J k ≤ 288 := z_co_le J B.qL _ _ _ _ _
theorem r_va_pos (I : z_MI) (J : z_MJ) (k : Nat) (h : r_va I J k = true) : 0 < r_bl I J k := by
  unfold r_va at h
  simp only [Bool.and_eq_true, Bool.not_eq_true', decide_eq_false_iff_not] at h
  omega
/-- the class's rows -/
def r_cm (I : z_MI) (I0 : z_MI) (J0 : z_MJ) (k : Nat) : z_MI := z_ri (z_ri I 41 (u_wr (r_va I0 J0) (r_ab I0 J0) (I 41) k)) 42 (u_wr (r_va I0 J0) (r_bl I0 J0) (I 42) k)
theorem r_cm_ag (n : Nat) (S : z_SH) (I : z_MI) (J : z_MJ) (P : z_MP) (K : Nat → Bool) (I0 : z_MI) (J0 : z_MJ) (k : Nat) : z_ag n (z_x0 K) S I J P S (r_cm I I0 J0 k) J P := by
  intro a ha
  refine ⟨⟨rfl, rfl⟩, fun hx => ⟨?_, rfl⟩⟩
  unfold z_x0 at hx
  simp only [Bool.or_eq_false_iff, Bool.and_eq_false_iff, decide_eq_false_iff_not] at hx
  unfold r_cm
  rw [z_ri_a (by omega), z_ri_a (by omega)]
theorem r_cm_up (I I0 : z_MI) (J0 : z_MJ) {k : Nat} (hv : r_va I0 J0 k = true) : z_up (z_up (r_cm I I0 J0 k) 41 (u_rc (r_va I0 J0) k) (z_n (r_ab I0 J0 k))) 42 (u_rc (r_va I0 J0) k) (z_n (r_bl I0 J0 k)) = r_cm I I0 J0 (k + 1) := by
  have e1 := u_wr_up I 41 (r_va I0 J0) (r_ab I0 J0) (I 41) hv
  funext b j
  by_cases h42 : b = 42
  · subst h42
    have e2 := congrFun (congrFun (u_wr_up I 42 (r_va I0 J0) (r_bl I0 J0) (I 42) hv) 42) j
    unfold r_cm
    unfold z_up z_ri at e2 ⊢
    simpa using e2
  · rw [z_up_a h42]
    unfold r_cm
    by_cases h41 : b = 41
    · subst h41
      have e3 := congrFun (congrFun e1 41) j
      unfold z_up z_ri at e3 ⊢
      simpa using e3
    · rw [z_up_a h41, z_ri_a h42, z_ri_a h42, z_ri_a h41, z_ri_a h41]
-- one READING more, or none
set_option maxRecDepth 100000 in
set_option maxHeartbeats 4000000 in
theorem C_addR (hS : z_St S) (hP : z_Pt P) (I0 : z_MI) (J0 : z_MJ) {k : Nat} (hk : k < 225) (hb : r_bl I0 J0 k ≤ 288) (hv : r_va I0 J0 k = !decide (r_bl I0 J0 k = 0)) : f_Rs_addReading 8 (z_n (u_rc (r_va I0 J0) k)) (z_n (r_ab I0 J0 k)) (z_n (r_bl I0 J0 k)) (z_h S (r_cm I I0 J0 k) J P n) = some (z_n (u_rc (r_va I0 J0) (k + 1)), z_h S (r_cm I I0 J0 (k + 1)) J P n) := by
  have hle := u_rc_le (r_va I0 J0) k
  have e11 : ∀ I J n, q_gr (q_gf (z_h S I J P n) 0 8 11) = some 41 := fun _ _ _ => z_gr (s_8 hS) rfl (p_8_11 hP)
  have e12 : ∀ I J n, q_gr (q_gf (z_h S I J P n) 0 8 12) = some 42 := fun _ _ _ => z_gr (s_8 hS) rfl (p_8_12 hP)
  by_cases h0 : r_bl I0 J0 k = 0
  · have hf : ¬ r_va I0 J0 k = true := by rw [hv, decide_eq_true h0]; simp
    have e1 : u_rc (r_va I0 J0) (k + 1) = u_rc (r_va I0 J0) k := by rw [u_rc, if_neg hf, Nat.add_zero]
    have e2 : r_cm I I0 J0 (k + 1) = r_cm I I0 J0 k := by
      unfold r_cm
      rw [u_wr, u_wr, if_neg hf, if_neg hf]
    simp (disch := omega) only [f_Rs_addReading, h0, e1, e2, or_true, true_or, or_false, false_or, z_b_T, z_b_F, Bool.false_eq_true, Classical.not_not, decide_eq_true_eq, z_sq, Option.bind_some, z_lits, z_n_add, z_n_mul, z_lt, z_le, z_eq, z_ne1, z_1ne, z_lt1, z_1lt, z_ltT, z_ltF, z_leT, z_leF, z_eqF, z_b_0, z_b_1, ↓reduceIte, eq_self, not_true_eq_false, not_false_eq_true, and_true, true_and, and_false, false_and, Nat.add_zero, Nat.zero_add]
  · have ht : r_va I0 J0 k = true := by rw [hv, decide_eq_false h0]; rfl
    have e1 : u_rc (r_va I0 J0) (k + 1) = u_rc (r_va I0 J0) k + 1 := by rw [u_rc, if_pos ht]
    have u := r_cm_up I I0 J0 ht
    simp (disch := omega) only [f_Rs_addReading, e11, e12, z_Otr hS hP, z_Otw hS, h0, e1, u, or_true, true_or, or_false, false_or, z_b_T, z_b_F, Bool.false_eq_true, Classical.not_not, decide_eq_true_eq, z_sq, Option.bind_some, z_lits, z_n_add, z_n_mul, z_lt, z_le, z_eq, z_ne1, z_1ne, z_lt1, z_1lt, z_ltT, z_ltF, z_leT, z_leF, z_eqF, z_b_0, z_b_1, ↓reduceIte, eq_self, not_true_eq_false, not_false_eq_true, and_true, true_and, and_false, false_and, Nat.add_zero, Nat.zero_add]
end
