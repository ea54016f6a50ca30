/-! READ: the page is settled. -/
theorem k_b1 : ∀ v, v < 16 → ∀ a b c d : Bool, ((z_n (v + (if a = true then 0 else 16) + (if b = true then 0 else 32) + (if c = true then 0 else 64) + (if d = true then 0 else 128)) &&& z_n 1) = (z_n v &&& z_n 1)) ∧ ((z_n (v + (if a = true then 0 else 16) + (if b = true then 0 else 32) + (if c = true then 0 else 64) + (if d = true then 0 else 128)) &&& z_n 2) = (z_n v &&& z_n 2)) := by decide +kernel
theorem k_b2 : ∀ v, v < 16 → ((z_n v &&& z_n 1) = z_n 0 ↔ ¬ (z_n v &&& z_n 1) = z_n 1) ∧ ∀ w, w < 16 → (((z_n v &&& z_n 2) ||| (z_n w &&& z_n 2)) = z_n 0 ↔ ¬ (z_n 0 < z_n v &&& z_n 2 ∨ z_n 0 < z_n w &&& z_n 2)) := by decide +kernel
theorem d_tg_v {D : z_D} (h : d_ok D) {l : Nat} (hl : l < D.1) : ∃ v, v < 16 ∧ D.2.1 4 l = z_n v ∧ (z_n (d_tg D l) &&& z_n 1) = (z_n v &&& z_n 1) ∧ (z_n (d_tg D l) &&& z_n 2) = (z_n v &&& z_n 2) := by
  obtain ⟨v, ev, hv⟩ := (h.2.1 l hl).2.2.2.2.1
  have e := k_b1 v hv (decide (D.2.2 1 l = 0)) (decide (D.2.2 2 l = 0)) (decide (D.2.1 2 l = -z_n 1)) (decide (D.2.1 3 l = -z_n 1))
  simp only [decide_eq_true_eq] at e
  have et : d_tg D l = v + (if D.2.2 1 l = 0 then 0 else 16) + (if D.2.2 2 l = 0 then 0 else 32) + (if D.2.1 2 l = -z_n 1 then 0 else 64) + (if D.2.1 3 l = -z_n 1 then 0 else 128) := by
    unfold d_tg
    rw [ev, z_n_nat (by omega)]
  rw [← et] at e
  exact ⟨v, hv, ev, e.1, e.2⟩
section
variable {S : z_SH} {I : z_MI} {J : z_MJ} {P : z_MP} {K : Nat → Bool} {n : Nat × Nat} {g l : Nat} {D : z_D}
theorem d_wf_hb (hD : d_ok D) (hl : l < D.1) (w : d_wf D l = true) : D.2.1 2 l = z_n (d_hb D l) ∧ d_hb D l < D.1 := by
  unfold d_wf at w
  have w := of_decide_eq_true w
  rcases (hD.2.1 l hl).2.2.1 with h | h
  · exact absurd h w.2
  · exact h
set_option maxRecDepth 100000 in
set_option maxHeartbeats 4000000 in
theorem C_sortOf (h : z_ps S P g) (hd : z_pd I J g D) (hD : d_ok D) (hl : l < D.1) (w : d_wf D l = true) : f_Pa_sortOf g (z_n l) (z_n (d_hb D l)) (z_h S I J P n) = some (z_n (d_so D l), z_h S I J P n) := by
  obtain ⟨e2, hb⟩ := d_wf_hb hD hl w
  have h12 := hD.1
  have rp := z_ps_r h
  have fu := C_isFull (n := n) h h hd hd hl hb h12 h12
  have ha := C_isHalf (n := n) h hd hl hb h12
  have kk := d_kin_fh hD (b := d_hb D l) hl
  obtain ⟨v, hv, ev, t1, -⟩ := d_tg_v hD hl
  obtain ⟨b1, -⟩ := k_b2 v hv
  obtain ⟨-, -, x6, -, x8⟩ := hd.2.2 l hl
  unfold d_so
  rw [kk, e2, ev]
  by_cases q1 : d_full D l D (d_hb D l) = true
  · rw [z_b_t q1] at fu
    rw [if_pos q1]
    simp (disch := omega) only [f_Pa_sortOf, rp, fu, or_true, true_or, or_false, false_or, z_b_T, z_b_F, Bool.false_eq_true, Classical.not_not, decide_eq_true_eq, z_sq, Option.bind_some, z_lits, z_n_add, z_n_mul, z_lt, z_le, z_eq, z_ne1, z_1ne, z_lt1, z_1lt, z_ltT, z_ltF, z_leT, z_leF, z_eqF, z_b_0, z_b_1, ↓reduceIte, eq_self, not_true_eq_false, not_false_eq_true, and_true, true_and, and_false, false_and, Nat.add_zero, Nat.zero_add]
  · rw [z_b_f q1] at fu
    rw [if_neg q1]
    by_cases q2 : d_half D l (d_hb D l) = true
    · rw [z_b_t q2] at ha
      rw [if_pos q2]
      simp (disch := omega) only [f_Pa_sortOf, rp, fu, ha, or_true, true_or, or_false, false_or, z_b_T, z_b_F, Bool.false_eq_true, Classical.not_not, decide_eq_true_eq, z_sq, Option.bind_some, z_lits, z_n_add, z_n_mul, z_lt, z_le, z_eq, z_ne1, z_1ne, z_lt1, z_1lt, z_ltT, z_ltF, z_leT, z_leF, z_eqF, z_b_0, z_b_1, ↓reduceIte, eq_self, not_true_eq_false, not_false_eq_true, and_true, true_and, and_false, false_and, Nat.add_zero, Nat.zero_add]
    · rw [z_b_f q2] at ha
      rw [if_neg q2, if_neg (Nat.lt_irrefl 0)]
      by_cases q3 : D.2.1 3 l = z_n (d_hb D l)
      · rw [if_neg (fun e => e q3)]
        by_cases q4 : (z_n v &&& z_n 1) = z_n 1
        · rw [if_pos q4]
          have b1 : ¬ (z_n v &&& z_n 1) = z_n 0 := fun e => b1.mp e q4
          simp (disch := omega) only [f_Pa_sortOf, rp, fu, ha, x6, x8, q3, t1, b1, or_true, true_or, or_false, false_or, z_b_T, z_b_F, Bool.false_eq_true, Classical.not_not, decide_eq_true_eq, z_sq, Option.bind_some, z_lits, z_n_add, z_n_mul, z_lt, z_le, z_eq, z_ne1, z_1ne, z_lt1, z_1lt, z_ltT, z_ltF, z_leT, z_leF, z_eqF, z_b_0, z_b_1, ↓reduceIte, eq_self, not_true_eq_false, not_false_eq_true, and_true, true_and, and_false, false_and, Nat.add_zero, Nat.zero_add]
        · rw [if_neg q4]
          have b1 := b1.mpr q4
          simp (disch := omega) only [f_Pa_sortOf, rp, fu, ha, x6, x8, q3, t1, b1, or_true, true_or, or_false, false_or, z_b_T, z_b_F, Bool.false_eq_true, Classical.not_not, decide_eq_true_eq, z_sq, Option.bind_some, z_lits, z_n_add, z_n_mul, z_lt, z_le, z_eq, z_ne1, z_1ne, z_lt1, z_1lt, z_ltT, z_ltF, z_leT, z_leF, z_eqF, z_b_0, z_b_1, ↓reduceIte, eq_self, not_true_eq_false, not_false_eq_true, and_true, true_and, and_false, false_and, Nat.add_zero, Nat.zero_add]
      · rw [if_pos q3]
        simp (disch := omega) only [f_Pa_sortOf, rp, fu, ha, x6, x8, q3, or_true, true_or, or_false, false_or, z_b_T, z_b_F, Bool.false_eq_true, Classical.not_not, decide_eq_true_eq, z_sq, Option.bind_some, z_lits, z_n_add, z_n_mul, z_lt, z_le, z_eq, z_ne1, z_1ne, z_lt1, z_1lt, z_ltT, z_ltF, z_leT, z_leF, z_eqF, z_b_0, z_b_1, ↓reduceIte, eq_self, not_true_eq_false, not_false_eq_true, and_true, true_and, and_false, false_and, Nat.add_zero, Nat.zero_add]
set_option maxRecDepth 100000 in
set_option maxHeartbeats 4000000 in
theorem C_adopted (h : z_ps S P g) (hd : z_pd I J g D) (hD : d_ok D) (hl : l < D.1) (w : d_wf D l = true) (e9 : I (g + 9) l = z_n (d_so D l)) : f_Pa_adoptedOf g (z_n l) (z_n (d_hb D l)) (z_h S I J P n) = some ((if d_so D l = 0 ∨ d_so D l = 2 then z_n (d_tk D l) else -z_n 1), z_h S I J P n) := by
  obtain ⟨e2, hb⟩ := d_wf_hb hD hl w
  have h12 := hD.1
  have rp := z_ps_r h
  have so4 := d_so_le D l
  have fo := C_fullO (n := n) (w := 0) h hd hl hb hD (by omega)
  obtain ⟨v, hv, ev, -, t1⟩ := d_tg_v hD hl
  obtain ⟨v', hv', ev', -, t1'⟩ := d_tg_v hD hb
  have b1 := (k_b2 v hv).2 v' hv'
  obtain ⟨-, -, x6, -, x8⟩ := hd.2.2 l hl
  obtain ⟨-, -, y6, -, y8⟩ := hd.2.2 _ hb
  have su : z_sum D.1 (d_ot D l (z_n 0) (d_hb D l)) < 2147483648 := by
    have := z_sum_le (d_ot D l (z_n 0) (d_hb D l)) 1 D.1 (fun i _ => by unfold d_ot; split <;> omega)
    omega
  by_cases q : d_so D l = 0 ∨ d_so D l = 2
  · rw [if_pos q]
    have tk : d_tk D l = if z_n 0 < D.2.1 4 l &&& z_n 2 ∨ z_n 0 < D.2.1 4 (d_hb D l) &&& z_n 2 then 2 else if 0 < z_sum D.1 (d_ot D l (z_n 0) (d_hb D l)) then 0 else 1 := by
      unfold d_tk; rw [if_pos q]
    rw [tk, ev, ev']
    generalize d_hb D l = m at *
    generalize z_sum D.1 (d_ot D l (z_n 0) m) = su' at *
    by_cases q2 : z_n 0 < z_n v &&& z_n 2 ∨ z_n 0 < z_n v' &&& z_n 2
    · rw [if_pos q2]
      have b1 : ¬ ((z_n v &&& z_n 2) ||| (z_n v' &&& z_n 2)) = z_n 0 := fun e => b1.mp e q2
      rcases q with q | q <;> simp (disch := omega) only [f_Pa_adoptedOf, rp, e9, q, x6, y6, z_aor, t1, t1', b1, or_true, true_or, or_false, false_or, z_b_T, z_b_F, Bool.false_eq_true, Classical.not_not, decide_eq_true_eq, z_sq, Option.bind_some, z_lits, z_n_add, z_n_mul, z_lt, z_le, z_eq, z_ne1, z_1ne, z_lt1, z_1lt, z_ltT, z_ltF, z_leT, z_leF, z_eqF, z_b_0, z_b_1, ↓reduceIte, eq_self, not_true_eq_false, not_false_eq_true, and_true, true_and, and_false, false_and, Nat.add_zero, Nat.zero_add]
    · rw [if_neg q2]
      have b1 := b1.mpr q2
      by_cases q3 : 0 < su'
      · rw [if_pos q3]
        have q4 : ¬ su' = 0 := by omega
        rcases q with q | q <;> simp (disch := omega) only [f_Pa_adoptedOf, rp, e9, q, x6, y6, z_aor, t1, t1', b1, fo, q4, or_true, true_or, or_false, false_or, z_b_T, z_b_F, Bool.false_eq_true, Classical.not_not, decide_eq_true_eq, z_sq, Option.bind_some, z_lits, z_n_add, z_n_mul, z_lt, z_le, z_eq, z_ne1, z_1ne, z_lt1, z_1lt, z_ltT, z_ltF, z_leT, z_leF, z_eqF, z_b_0, z_b_1, ↓reduceIte, eq_self, not_true_eq_false, not_false_eq_true, and_true, true_and, and_false, false_and, Nat.add_zero, Nat.zero_add]
      · rw [if_neg q3]
        have q4 : su' = 0 := by omega
        rcases q with q | q <;> simp (disch := omega) only [f_Pa_adoptedOf, rp, e9, q, x6, y6, z_aor, t1, t1', b1, fo, q4, or_true, true_or, or_false, false_or, z_b_T, z_b_F, Bool.false_eq_true, Classical.not_not, decide_eq_true_eq, z_sq, Option.bind_some, z_lits, z_n_add, z_n_mul, z_lt, z_le, z_eq, z_ne1, z_1ne, z_lt1, z_1lt, z_ltT, z_ltF, z_leT, z_leF, z_eqF, z_b_0, z_b_1, ↓reduceIte, eq_self, not_true_eq_false, not_false_eq_true, and_true, true_and, and_false, false_and, Nat.add_zero, Nat.zero_add]
  · rw [if_neg q]
    have q1 : ¬ d_so D l = 0 := fun e => q (Or.inl e)
    have q2 : ¬ d_so D l = 2 := fun e => q (Or.inr e)
    simp (disch := omega) only [f_Pa_adoptedOf, rp, e9, q1, q2, or_true, true_or, or_false, false_or, z_b_T, z_b_F, Bool.false_eq_true, Classical.not_not, decide_eq_true_eq, z_sq, Option.bind_some, z_lits, z_n_add, z_n_mul, z_lt, z_le, z_eq, z_ne1, z_1ne, z_lt1, z_1lt, z_ltT, z_ltF, z_leT, z_leF, z_eqF, z_b_0, z_b_1, ↓reduceIte, eq_self, not_true_eq_false, not_false_eq_true, and_true, true_and, and_false, false_and, Nat.add_zero, Nat.zero_add]
end
