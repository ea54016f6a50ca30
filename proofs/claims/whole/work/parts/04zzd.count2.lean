/-! COUNT: the pair. -/
theorem z_o_ne {a : Int32} {N k : Nat} (h : z_o a N) (hk : k ≤ N) (hN : N < 2147483648) : (a = z_n k) = False := by
  refine eq_false (fun e => ?_)
  rw [e] at h
  rcases h with h | h
  · rw [z_lt (by omega) (by omega)] at h; omega
  · rw [z_lt (by omega) (by omega)] at h; omega
section
variable {S : z_SH} {I : z_MI} {J : z_MJ} {P : z_MP} {K : Nat → Bool} {n : Nat × Nat}
def u_cn (I : z_MI) (e s : Nat) : Nat := if e = 0 then (if ¬ I 85 s = z_n 0 then 1 else 0) else if e = 1 then (if z_th I s = true then 1 else 0) else if e = 2 then (if z_th I s = true then z_ln I s else 0) else 0
set_option maxRecDepth 100000 in
set_option maxHeartbeats 4000000 in
theorem M_cnt42 (B : z_B S I J P K n.1) {Y : z_MI} (c : z_cg I J Y J) {e : Nat} (he : e ≤ 7) : f_Mo_count_L42 83 (z_n e) q_FU (z_n 0) (z_n 0) (z_h S Y J P n) = some (z_n (z_sum 24 (u_cn I e)), z_h S Y J P n) := by
  have hS := B.qS
  have hP := B.qP
  have om := fun I J => z_ob (I := I) (J := J) (P := P) (n := n) (s_83 hS)
  exact z_run (fun m s => f_Mo_count_L42 83 (z_n e) m (z_n (z_sum s (u_cn I e))) (z_n s) (z_h S Y J P n)) 24 (by omega)
    (by
      intro m s hs
      have th := M_isThere (n := n) (I := Y) (J := J) hS hP hs
      rw [z_th_c c] at th
      have hL : Y 90 s = z_n (z_ln I s) := by rw [c.i 90 rfl]; exact (B.qL s (by omega)).1
      have e85 : Y 85 s = I 85 s := c.i 85 rfl s
      rw [z_sum_s]
      unfold u_cn
      by_cases e0 : e = 0
      · subst e0
        rcases z_tf (I 85 s = z_n 0) with c1 | c1 <;> simp (disch := omega) only [f_Mo_count_L42, hs, om, th, z_Mr hS hP, e85, c1, or_true, true_or, or_false, false_or, z_b_T, z_b_F, Bool.false_eq_true, Classical.not_not, decide_eq_true_eq, z_sq, Option.bind_some, z_lits, z_n_add, z_n_mul, z_lt, z_le, z_eq, z_ne1, z_1ne, z_lt1, z_1lt, z_ltT, z_ltF, z_leT, z_leF, z_eqF, z_b_0, z_b_1, ↓reduceIte, eq_self, not_true_eq_false, not_false_eq_true, and_true, true_and, and_false, false_and, Nat.add_zero, Nat.zero_add]
      · by_cases e1 : e = 1
        · subst e1
          by_cases h1 : z_th I s = true
          · rw [z_b_t h1] at th
            simp (disch := omega) only [f_Mo_count_L42, hs, om, th, z_Mr hS hP, h1, or_true, true_or, or_false, false_or, z_b_T, z_b_F, Bool.false_eq_true, Classical.not_not, decide_eq_true_eq, z_sq, Option.bind_some, z_lits, z_n_add, z_n_mul, z_lt, z_le, z_eq, z_ne1, z_1ne, z_lt1, z_1lt, z_ltT, z_ltF, z_leT, z_leF, z_eqF, z_b_0, z_b_1, ↓reduceIte, eq_self, not_true_eq_false, not_false_eq_true, and_true, true_and, and_false, false_and, Nat.add_zero, Nat.zero_add]
          · rw [z_b_f h1] at th
            simp (disch := omega) only [f_Mo_count_L42, hs, om, th, z_Mr hS hP, h1, or_true, true_or, or_false, false_or, z_b_T, z_b_F, Bool.false_eq_true, Classical.not_not, decide_eq_true_eq, z_sq, Option.bind_some, z_lits, z_n_add, z_n_mul, z_lt, z_le, z_eq, z_ne1, z_1ne, z_lt1, z_1lt, z_ltT, z_ltF, z_leT, z_leF, z_eqF, z_b_0, z_b_1, ↓reduceIte, eq_self, not_true_eq_false, not_false_eq_true, and_true, true_and, and_false, false_and, Nat.add_zero, Nat.zero_add]
        · by_cases e2 : e = 2
          · subst e2
            by_cases h1 : z_th I s = true
            · rw [z_b_t h1] at th
              simp (disch := omega) only [f_Mo_count_L42, hs, om, th, z_Mr hS hP, hL, h1, or_true, true_or, or_false, false_or, z_b_T, z_b_F, Bool.false_eq_true, Classical.not_not, decide_eq_true_eq, z_sq, Option.bind_some, z_lits, z_n_add, z_n_mul, z_lt, z_le, z_eq, z_ne1, z_1ne, z_lt1, z_1lt, z_ltT, z_ltF, z_leT, z_leF, z_eqF, z_b_0, z_b_1, ↓reduceIte, eq_self, not_true_eq_false, not_false_eq_true, and_true, true_and, and_false, false_and, Nat.add_zero, Nat.zero_add]
            · rw [z_b_f h1] at th
              simp (disch := omega) only [f_Mo_count_L42, hs, om, th, z_Mr hS hP, h1, or_true, true_or, or_false, false_or, z_b_T, z_b_F, Bool.false_eq_true, Classical.not_not, decide_eq_true_eq, z_sq, Option.bind_some, z_lits, z_n_add, z_n_mul, z_lt, z_le, z_eq, z_ne1, z_1ne, z_lt1, z_1lt, z_ltT, z_ltF, z_leT, z_leF, z_eqF, z_b_0, z_b_1, ↓reduceIte, eq_self, not_true_eq_false, not_false_eq_true, and_true, true_and, and_false, false_and, Nat.add_zero, Nat.zero_add]
          · simp (disch := omega) only [f_Mo_count_L42, hs, e0, e1, e2, or_true, true_or, or_false, false_or, z_b_T, z_b_F, Bool.false_eq_true, Classical.not_not, decide_eq_true_eq, z_sq, Option.bind_some, z_lits, z_n_add, z_n_mul, z_lt, z_le, z_eq, z_ne1, z_1ne, z_lt1, z_1lt, z_ltT, z_ltF, z_leT, z_leF, z_eqF, z_b_0, z_b_1, ↓reduceIte, eq_self, not_true_eq_false, not_false_eq_true, and_true, true_and, and_false, false_and, Nat.add_zero, Nat.zero_add])
    (by
      intro m
      simp (disch := omega) only [f_Mo_count_L42, Nat.lt_irrefl, or_true, true_or, or_false, false_or, z_b_T, z_b_F, Bool.false_eq_true, Classical.not_not, decide_eq_true_eq, z_sq, Option.bind_some, z_lits, z_n_add, z_n_mul, z_lt, z_le, z_eq, z_ne1, z_1ne, z_lt1, z_1lt, z_ltT, z_ltF, z_leT, z_leF, z_eqF, z_b_0, z_b_1, ↓reduceIte, eq_self, not_true_eq_false, not_false_eq_true, and_true, true_and, and_false, false_and, Nat.add_zero, Nat.zero_add])
set_option maxRecDepth 100000 in
set_option maxHeartbeats 4000000 in
theorem C_told (B : z_B S I J P K n.1) : f_Sf_toldCount 13 (z_h S I J P n) = some (z_n (z_sum 24 (u_cn I 0)), z_h S I J P n) := by
  have hS := B.qS
  have hP := B.qP
  have h := z_run (fun m s => f_Sf_toldCount_L4 13 m (z_n (z_sum s (u_cn I 0))) (z_n s) (z_h S I J P n)) 24 (r := some (z_n (z_sum 24 (u_cn I 0)), z_h S I J P n)) (by omega)
    (by
      intro m s hs
      have e := (B.qC.1 s hs).1
      rw [z_sum_s]
      unfold u_cn
      rcases z_tf (I 85 s = z_n 0) with c1 | c1 <;> simp (disch := omega) only [f_Sf_toldCount_L4, hs, z_Shr hS hP, e, c1, or_true, true_or, or_false, false_or, z_b_T, z_b_F, Bool.false_eq_true, Classical.not_not, decide_eq_true_eq, z_sq, Option.bind_some, z_lits, z_n_add, z_n_mul, z_lt, z_le, z_eq, z_ne1, z_1ne, z_lt1, z_1lt, z_ltT, z_ltF, z_leT, z_leF, z_eqF, z_b_0, z_b_1, ↓reduceIte, eq_self, not_true_eq_false, not_false_eq_true, and_true, true_and, and_false, false_and, Nat.add_zero, Nat.zero_add])
    (by
      intro m
      simp (disch := omega) only [f_Sf_toldCount_L4, Nat.lt_irrefl, or_true, true_or, or_false, false_or, z_b_T, z_b_F, Bool.false_eq_true, Classical.not_not, decide_eq_true_eq, z_sq, Option.bind_some, z_lits, z_n_add, z_n_mul, z_lt, z_le, z_eq, z_ne1, z_1ne, z_lt1, z_1lt, z_ltT, z_ltF, z_leT, z_leF, z_eqF, z_b_0, z_b_1, ↓reduceIte, eq_self, not_true_eq_false, not_false_eq_true, and_true, true_and, and_false, false_and, Nat.add_zero, Nat.zero_add])
  simp only [z_sum_0] at h
  simp (disch := omega) only [f_Sf_toldCount, h, or_true, true_or, or_false, false_or, z_b_T, z_b_F, Bool.false_eq_true, Classical.not_not, decide_eq_true_eq, z_sq, Option.bind_some, z_lits, z_n_add, z_n_mul, z_lt, z_le, z_eq, z_ne1, z_1ne, z_lt1, z_1lt, z_ltT, z_ltF, z_leT, z_leF, z_eqF, z_b_0, z_b_1, ↓reduceIte, eq_self, not_true_eq_false, not_false_eq_true, and_true, true_and, and_false, false_and, Nat.add_zero, Nat.zero_add]
set_option maxRecDepth 100000 in
set_option maxHeartbeats 4000000 in
theorem C_readc (B : z_B S I J P K n.1) : f_Sf_readCount 13 (z_h S I J P n) = some (z_n (z_sum 24 (u_cn I 1)), z_h S I J P n) := by
  have hS := B.qS
  have hP := B.qP
  have h := z_run (fun m s => f_Sf_readCount_L4 13 m (z_n (z_sum s (u_cn I 1))) (z_n s) (z_h S I J P n)) 24 (r := some (z_n (z_sum 24 (u_cn I 1)), z_h S I J P n)) (by omega)
    (by
      intro m s hs
      rw [z_sum_s]
      unfold u_cn
      by_cases h1 : z_th I s = true
      · obtain ⟨p, e1, e2, e3⟩ := h_pg B (fun _ _ => rfl) hs h1
        simp (disch := omega) only [f_Sf_readCount_L4, hs, z_Shr hS hP, e1, h1, or_true, true_or, or_false, false_or, z_b_T, z_b_F, Bool.false_eq_true, Classical.not_not, decide_eq_true_eq, z_sq, Option.bind_some, z_lits, z_n_add, z_n_mul, z_lt, z_le, z_eq, z_ne1, z_1ne, z_lt1, z_1lt, z_ltT, z_ltF, z_leT, z_leF, z_eqF, z_b_0, z_b_1, ↓reduceIte, eq_self, not_true_eq_false, not_false_eq_true, and_true, true_and, and_false, false_and, Nat.add_zero, Nat.zero_add]
      · have e0 := h_pn B hs h1
        simp (disch := omega) only [f_Sf_readCount_L4, hs, z_Shr hS hP, e0, h1, or_true, true_or, or_false, false_or, z_b_T, z_b_F, Bool.false_eq_true, Classical.not_not, decide_eq_true_eq, z_sq, Option.bind_some, z_lits, z_n_add, z_n_mul, z_lt, z_le, z_eq, z_ne1, z_1ne, z_lt1, z_1lt, z_ltT, z_ltF, z_leT, z_leF, z_eqF, z_b_0, z_b_1, ↓reduceIte, eq_self, not_true_eq_false, not_false_eq_true, and_true, true_and, and_false, false_and, Nat.add_zero, Nat.zero_add])
    (by
      intro m
      simp (disch := omega) only [f_Sf_readCount_L4, Nat.lt_irrefl, or_true, true_or, or_false, false_or, z_b_T, z_b_F, Bool.false_eq_true, Classical.not_not, decide_eq_true_eq, z_sq, Option.bind_some, z_lits, z_n_add, z_n_mul, z_lt, z_le, z_eq, z_ne1, z_1ne, z_lt1, z_1lt, z_ltT, z_ltF, z_leT, z_leF, z_eqF, z_b_0, z_b_1, ↓reduceIte, eq_self, not_true_eq_false, not_false_eq_true, and_true, true_and, and_false, false_and, Nat.add_zero, Nat.zero_add])
  simp only [z_sum_0] at h
  simp (disch := omega) only [f_Sf_readCount, h, or_true, true_or, or_false, false_or, z_b_T, z_b_F, Bool.false_eq_true, Classical.not_not, decide_eq_true_eq, z_sq, Option.bind_some, z_lits, z_n_add, z_n_mul, z_lt, z_le, z_eq, z_ne1, z_1ne, z_lt1, z_1lt, z_ltT, z_ltF, z_leT, z_leF, z_eqF, z_b_0, z_b_1, ↓reduceIte, eq_self, not_true_eq_false, not_false_eq_true, and_true, true_and, and_false, false_and, Nat.add_zero, Nat.zero_add]
set_option maxRecDepth 100000 in
set_option maxHeartbeats 4000000 in
theorem C_linec (B : z_B S I J P K n.1) : f_Sf_lineCount 13 (z_h S I J P n) = some (z_n (z_sum 24 (u_cn I 2)), z_h S I J P n) := by
  have hS := B.qS
  have hP := B.qP
  have h := z_run (fun m s => f_Sf_lineCount_L4 13 m (z_n (z_sum s (u_cn I 2))) (z_n s) (z_h S I J P n)) 24 (r := some (z_n (z_sum 24 (u_cn I 2)), z_h S I J P n)) (by omega)
    (by
      intro m s hs
      rw [z_sum_s]
      unfold u_cn
      by_cases h1 : z_th I s = true
      · obtain ⟨p, e1, e2, e3⟩ := h_pg B (fun _ _ => rfl) hs h1
        have sz : I p 0 = z_n (z_ln I s) := e3.1
        have r1 := z_ps_r e2
        simp (disch := omega) only [f_Sf_lineCount_L4, hs, z_Shr hS hP, e1, h1, r1, sz, or_true, true_or, or_false, false_or, z_b_T, z_b_F, Bool.false_eq_true, Classical.not_not, decide_eq_true_eq, z_sq, Option.bind_some, z_lits, z_n_add, z_n_mul, z_lt, z_le, z_eq, z_ne1, z_1ne, z_lt1, z_1lt, z_ltT, z_ltF, z_leT, z_leF, z_eqF, z_b_0, z_b_1, ↓reduceIte, eq_self, not_true_eq_false, not_false_eq_true, and_true, true_and, and_false, false_and, Nat.add_zero, Nat.zero_add]
      · have e0 := h_pn B hs h1
        simp (disch := omega) only [f_Sf_lineCount_L4, hs, z_Shr hS hP, e0, h1, or_true, true_or, or_false, false_or, z_b_T, z_b_F, Bool.false_eq_true, Classical.not_not, decide_eq_true_eq, z_sq, Option.bind_some, z_lits, z_n_add, z_n_mul, z_lt, z_le, z_eq, z_ne1, z_1ne, z_lt1, z_1lt, z_ltT, z_ltF, z_leT, z_leF, z_eqF, z_b_0, z_b_1, ↓reduceIte, eq_self, not_true_eq_false, not_false_eq_true, and_true, true_and, and_false, false_and, Nat.add_zero, Nat.zero_add])
    (by
      intro m
      simp (disch := omega) only [f_Sf_lineCount_L4, Nat.lt_irrefl, or_true, true_or, or_false, false_or, z_b_T, z_b_F, Bool.false_eq_true, Classical.not_not, decide_eq_true_eq, z_sq, Option.bind_some, z_lits, z_n_add, z_n_mul, z_lt, z_le, z_eq, z_ne1, z_1ne, z_lt1, z_1lt, z_ltT, z_ltF, z_leT, z_leF, z_eqF, z_b_0, z_b_1, ↓reduceIte, eq_self, not_true_eq_false, not_false_eq_true, and_true, true_and, and_false, false_and, Nat.add_zero, Nat.zero_add])
  simp only [z_sum_0] at h
  simp (disch := omega) only [f_Sf_lineCount, h, or_true, true_or, or_false, false_or, z_b_T, z_b_F, Bool.false_eq_true, Classical.not_not, decide_eq_true_eq, z_sq, Option.bind_some, z_lits, z_n_add, z_n_mul, z_lt, z_le, z_eq, z_ne1, z_1ne, z_lt1, z_1lt, z_ltT, z_ltF, z_leT, z_leF, z_eqF, z_b_0, z_b_1, ↓reduceIte, eq_self, not_true_eq_false, not_false_eq_true, and_true, true_and, and_false, false_and, Nat.add_zero, Nat.zero_add]
set_option maxRecDepth 100000 in
set_option maxHeartbeats 4000000 in
theorem C_countOf {X : z_MI} (B : z_B S I J P K n.1) (a2 : ∀ a, (a < 22 ∨ 26 < a) → X a = I a) (f : h_full I J X) : f_Ho_countOf 22 13 (z_h S X J P n) = some (z_n (h_n (z_th I) (h_rc I J 24)), z_h S X J P n) := by
  have hS := B.qS
  have hP := B.qP
  have o4 := fun I J => z_ob (I := I) (J := J) (P := P) (n := n) (s_13 hS)
  have h := z_run (fun m s => f_Ho_countOf_L4 22 13 m (z_n (z_sum s fun i => if z_th I i = true ∧ h_rc I J 24 i = i then 1 else 0)) (z_n s) (z_h S X J P n)) 24 (r := some (z_n (h_n (z_th I) (h_rc I J 24)), z_h S X J P n)) (by omega)
    (by
      intro m s hs
      have p1 := C_pageOf (I := X) (J := J) (n := n) hS hP hs
      have r1 := ((h_RR I J).1.1 s hs).1
      have v1 := f.1 s hs
      rw [z_sum_s]
      by_cases h1 : z_th I s = true
      · obtain ⟨p, e1, -, -⟩ := h_pg B a2 hs h1
        by_cases h2 : h_rc I J 24 s = s
        · rw [if_pos ⟨h1, h2⟩]
          rw [h2] at v1
          simp (disch := omega) only [f_Ho_countOf_L4, hs, o4, p1, e1, z_Hor hS hP, v1, or_true, true_or, or_false, false_or, z_b_T, z_b_F, Bool.false_eq_true, Classical.not_not, decide_eq_true_eq, z_sq, Option.bind_some, z_lits, z_n_add, z_n_mul, z_lt, z_le, z_eq, z_ne1, z_1ne, z_lt1, z_1lt, z_ltT, z_ltF, z_leT, z_leF, z_eqF, z_b_0, z_b_1, ↓reduceIte, eq_self, not_true_eq_false, not_false_eq_true, and_true, true_and, and_false, false_and, Nat.add_zero, Nat.zero_add]
        · rw [if_neg (fun q => h2 q.2)]
          simp (disch := omega) only [f_Ho_countOf_L4, hs, o4, p1, e1, z_Hor hS hP, v1, h2, or_true, true_or, or_false, false_or, z_b_T, z_b_F, Bool.false_eq_true, Classical.not_not, decide_eq_true_eq, z_sq, Option.bind_some, z_lits, z_n_add, z_n_mul, z_lt, z_le, z_eq, z_ne1, z_1ne, z_lt1, z_1lt, z_ltT, z_ltF, z_leT, z_leF, z_eqF, z_b_0, z_b_1, ↓reduceIte, eq_self, not_true_eq_false, not_false_eq_true, and_true, true_and, and_false, false_and, Nat.add_zero, Nat.zero_add]
      · rw [if_neg (fun q => h1 q.1)]
        simp (disch := omega) only [f_Ho_countOf_L4, hs, o4, p1, h_pn B hs h1, or_true, true_or, or_false, false_or, z_b_T, z_b_F, Bool.false_eq_true, Classical.not_not, decide_eq_true_eq, z_sq, Option.bind_some, z_lits, z_n_add, z_n_mul, z_lt, z_le, z_eq, z_ne1, z_1ne, z_lt1, z_1lt, z_ltT, z_ltF, z_leT, z_leF, z_eqF, z_b_0, z_b_1, ↓reduceIte, eq_self, not_true_eq_false, not_false_eq_true, and_true, true_and, and_false, false_and, Nat.add_zero, Nat.zero_add])
    (by
      intro m
      simp (disch := omega) only [f_Ho_countOf_L4, Nat.lt_irrefl, or_true, true_or, or_false, false_or, z_b_T, z_b_F, Bool.false_eq_true, Classical.not_not, decide_eq_true_eq, z_sq, Option.bind_some, z_lits, z_n_add, z_n_mul, z_lt, z_le, z_eq, z_ne1, z_1ne, z_lt1, z_1lt, z_ltT, z_ltF, z_leT, z_leF, z_eqF, z_b_0, z_b_1, ↓reduceIte, eq_self, not_true_eq_false, not_false_eq_true, and_true, true_and, and_false, false_and, Nat.add_zero, Nat.zero_add]
      rfl)
  simp only [z_sum_0] at h
  simp (disch := omega) only [f_Ho_countOf, h, or_true, true_or, or_false, false_or, z_b_T, z_b_F, Bool.false_eq_true, Classical.not_not, decide_eq_true_eq, z_sq, Option.bind_some, z_lits, z_n_add, z_n_mul, z_lt, z_le, z_eq, z_ne1, z_1ne, z_lt1, z_1lt, z_ltT, z_ltF, z_leT, z_leF, z_eqF, z_b_0, z_b_1, ↓reduceIte, eq_self, not_true_eq_false, not_false_eq_true, and_true, true_and, and_false, false_and, Nat.add_zero, Nat.zero_add]
set_option maxRecDepth 100000 in
set_option maxHeartbeats 4000000 in
theorem M_pieces (B : z_B S I J P K n.1) {Y : z_MI} (c : z_cg I J Y J) : ∃ Z, f_Mo_piecesOf 83 (z_h S Y J P n) = some (z_n (h_n (z_th I) (h_rc I J 24)), z_h S Z J P n) ∧ z_mf Y J Z J := by
  have hS := B.qS
  have hP := B.qP
  have om := fun I J => z_ob (I := I) (J := J) (P := P) (n := n) (s_83 hS)
  obtain ⟨Z, b1, b2, b3⟩ := M_hous (Y := Y) (JY := J) (n' := n) B hS hP c
  have mZ := h_mf100 (JY := J) b2
  have e := (h_RR I J).2.2
  change h_n (z_th I) (h_rc I J 24) = h_n (z_th I) (h_rm I J 24) at e
  have h := z_run (fun m s => f_Mo_piecesOf_L8 83 m (z_n (z_sum s fun i => if z_th I i = true ∧ h_rm I J 24 i = i then 1 else 0)) (z_n s) (z_h S Z J P n)) 24 (r := some (z_n (h_n (z_th I) (h_rm I J 24)), z_h S Z J P n)) (by omega)
    (by
      intro m s hs
      have th := M_isThere (n := n) (I := Z) (J := J) hS hP hs
      rw [z_th_c mZ.cg, z_th_c c] at th
      have r1 := ((h_RR I J).1.2 s hs).1
      change h_rm I J 24 s < 24 at r1
      have v1 := b3 s hs
      rw [z_sum_s]
      by_cases h1 : z_th I s = true
      · rw [z_b_t h1] at th
        by_cases h2 : h_rm I J 24 s = s
        · rw [if_pos ⟨h1, h2⟩]
          rw [h2] at v1
          simp (disch := omega) only [f_Mo_piecesOf_L8, hs, om, th, z_Mr hS hP, v1, or_true, true_or, or_false, false_or, z_b_T, z_b_F, Bool.false_eq_true, Classical.not_not, decide_eq_true_eq, z_sq, Option.bind_some, z_lits, z_n_add, z_n_mul, z_lt, z_le, z_eq, z_ne1, z_1ne, z_lt1, z_1lt, z_ltT, z_ltF, z_leT, z_leF, z_eqF, z_b_0, z_b_1, ↓reduceIte, eq_self, not_true_eq_false, not_false_eq_true, and_true, true_and, and_false, false_and, Nat.add_zero, Nat.zero_add]
        · rw [if_neg (fun q => h2 q.2)]
          simp (disch := omega) only [f_Mo_piecesOf_L8, hs, om, th, z_Mr hS hP, v1, h2, or_true, true_or, or_false, false_or, z_b_T, z_b_F, Bool.false_eq_true, Classical.not_not, decide_eq_true_eq, z_sq, Option.bind_some, z_lits, z_n_add, z_n_mul, z_lt, z_le, z_eq, z_ne1, z_1ne, z_lt1, z_1lt, z_ltT, z_ltF, z_leT, z_leF, z_eqF, z_b_0, z_b_1, ↓reduceIte, eq_self, not_true_eq_false, not_false_eq_true, and_true, true_and, and_false, false_and, Nat.add_zero, Nat.zero_add]
      · rw [z_b_f h1] at th
        rw [if_neg (fun q => h1 q.1)]
        simp (disch := omega) only [f_Mo_piecesOf_L8, hs, om, th, or_true, true_or, or_false, false_or, z_b_T, z_b_F, Bool.false_eq_true, Classical.not_not, decide_eq_true_eq, z_sq, Option.bind_some, z_lits, z_n_add, z_n_mul, z_lt, z_le, z_eq, z_ne1, z_1ne, z_lt1, z_1lt, z_ltT, z_ltF, z_leT, z_leF, z_eqF, z_b_0, z_b_1, ↓reduceIte, eq_self, not_true_eq_false, not_false_eq_true, and_true, true_and, and_false, false_and, Nat.add_zero, Nat.zero_add])
    (by
      intro m
      simp (disch := omega) only [f_Mo_piecesOf_L8, Nat.lt_irrefl, or_true, true_or, or_false, false_or, z_b_T, z_b_F, Bool.false_eq_true, Classical.not_not, decide_eq_true_eq, z_sq, Option.bind_some, z_lits, z_n_add, z_n_mul, z_lt, z_le, z_eq, z_ne1, z_1ne, z_lt1, z_1lt, z_ltT, z_ltF, z_leT, z_leF, z_eqF, z_b_0, z_b_1, ↓reduceIte, eq_self, not_true_eq_false, not_false_eq_true, and_true, true_and, and_false, false_and, Nat.add_zero, Nat.zero_add]
      rfl)
  simp only [z_sum_0] at h
  refine ⟨Z, ?_, mZ⟩
  rw [e]
  simp (disch := omega) only [f_Mo_piecesOf, om, b1, h, or_true, true_or, or_false, false_or, z_b_T, z_b_F, Bool.false_eq_true, Classical.not_not, decide_eq_true_eq, z_sq, Option.bind_some, z_lits, z_n_add, z_n_mul, z_lt, z_le, z_eq, z_ne1, z_1ne, z_lt1, z_1lt, z_ltT, z_ltF, z_leT, z_leF, z_eqF, z_b_0, z_b_1, ↓reduceIte, eq_self, not_true_eq_false, not_false_eq_true, and_true, true_and, and_false, false_and, Nat.add_zero, Nat.zero_add]
def u_ln (I : z_MI) (k : Nat) : Nat := (I 104 k).toNatClampNeg
set_option maxRecDepth 100000 in
set_option maxHeartbeats 4000000 in
theorem C_lawLines (H : Inv S I J P K n.1) : f_Rs_lawLines 8 (z_h S I J P n) = some (z_n (z_sum 4 (u_ln I)), z_h S I J P n) := by
  have B := H.1
  have hS := B.qS
  have hP := B.qP
  have o8 : ∀ I J, q_gr (q_gf (z_h S I J P n) 0 8 8) = some 34 := fun _ _ => z_gr (s_8 hS) rfl (p_8_8 hP)
  have h := z_run (fun m s => f_Rs_lawLines_L4 8 m (z_n (z_sum s (u_ln I))) (z_n s) (z_h S I J P n)) 4 (r := some (z_n (z_sum 4 (u_ln I)), z_h S I J P n)) (by omega)
    (by
      intro m s hs
      obtain ⟨q, c, t, m', z, N, w, h1, -, ⟨h2, h3, h4, h5, h6, h7, h8⟩, -⟩ := H.2.2.2.2.1 s hs
      have e1 : q_gr (q_ga (z_h S I J P n) 27 34 (z_n s)) = some q := z_gra (s_34 hS) (by omega) (z_rpl hs) h1
      have e2 : q_gi (q_gf (z_h S I J P n) 6 q 2) = some (z_n N) := by rw [z_gi h2 rfl, h6]
      have e3 : u_ln I s = N := by unfold u_ln; rw [h7]; exact z_n_nat (by omega)
      rw [z_sum_s, e3]
      simp (disch := omega) only [f_Rs_lawLines_L4, hs, o8, e1, e2, or_true, true_or, or_false, false_or, z_b_T, z_b_F, Bool.false_eq_true, Classical.not_not, decide_eq_true_eq, z_sq, Option.bind_some, z_lits, z_n_add, z_n_mul, z_lt, z_le, z_eq, z_ne1, z_1ne, z_lt1, z_1lt, z_ltT, z_ltF, z_leT, z_leF, z_eqF, z_b_0, z_b_1, ↓reduceIte, eq_self, not_true_eq_false, not_false_eq_true, and_true, true_and, and_false, false_and, Nat.add_zero, Nat.zero_add])
    (by
      intro m
      simp (disch := omega) only [f_Rs_lawLines_L4, Nat.lt_irrefl, or_true, true_or, or_false, false_or, z_b_T, z_b_F, Bool.false_eq_true, Classical.not_not, decide_eq_true_eq, z_sq, Option.bind_some, z_lits, z_n_add, z_n_mul, z_lt, z_le, z_eq, z_ne1, z_1ne, z_lt1, z_1lt, z_ltT, z_ltF, z_leT, z_leF, z_eqF, z_b_0, z_b_1, ↓reduceIte, eq_self, not_true_eq_false, not_false_eq_true, and_true, true_and, and_false, false_and, Nat.add_zero, Nat.zero_add])
  simp only [z_sum_0] at h
  simp (disch := omega) only [f_Rs_lawLines, h, or_true, true_or, or_false, false_or, z_b_T, z_b_F, Bool.false_eq_true, Classical.not_not, decide_eq_true_eq, z_sq, Option.bind_some, z_lits, z_n_add, z_n_mul, z_lt, z_le, z_eq, z_ne1, z_1ne, z_lt1, z_1lt, z_ltT, z_ltF, z_leT, z_leF, z_eqF, z_b_0, z_b_1, ↓reduceIte, eq_self, not_true_eq_false, not_false_eq_true, and_true, true_and, and_false, false_and, Nat.add_zero, Nat.zero_add]
set_option maxRecDepth 100000 in
set_option maxHeartbeats 4000000 in
theorem X_count (H : Inv S I J P K n.1) (a : Int32) : h_pair (f_Rs_count 8 a) (f_Mo_count 83 a) S I J P n := by
  have B := H.1
  have ho := H.2.1
  have hS := B.qS
  have hP := B.qP
  have m : z_mf I J (z_up I 83 0 (z_n 0)) J := z_mf.up rfl
  have c := m.cg
  obtain ⟨o1, o2, o3, o4, o5⟩ := C_hob (n := n) hS hP
  have om := fun I J => z_ob (I := I) (J := J) (P := P) (n := n) (s_83 hS)
  rcases z_in a 7 (by omega) with ⟨e, he, rfl⟩ | ha
  rotate_left
  · have ne := fun k hk => z_o_ne (k := k) ha hk (by omega)
    have n0 := ne 0 (by omega)
    have n1 := ne 1 (by omega)
    have n2 := ne 2 (by omega)
    have n3 := ne 3 (by omega)
    have n4 := ne 4 (by omega)
    have n5 := ne 5 (by omega)
    have n6 := ne 6 (by omega)
    have n7 := ne 7 (by omega)
    refine h_pair.same ho (r := -z_n 1) ?_ ?_ m
    · simp (disch := omega) only [f_Rs_count, n0, n1, n2, n3, n4, n5, n6, n7, or_true, true_or, or_false, false_or, z_b_T, z_b_F, Bool.false_eq_true, Classical.not_not, decide_eq_true_eq, z_sq, Option.bind_some, z_lits, z_n_add, z_n_mul, z_lt, z_le, z_eq, z_ne1, z_1ne, z_lt1, z_1lt, z_ltT, z_ltF, z_leT, z_leF, z_eqF, z_b_0, z_b_1, ↓reduceIte, eq_self, not_true_eq_false, not_false_eq_true, and_true, true_and, and_false, false_and, Nat.add_zero, Nat.zero_add]
    · simp (disch := omega) only [f_Mo_count, M_thr hS, M_wout ha, or_true, true_or, or_false, false_or, z_b_T, z_b_F, Bool.false_eq_true, Classical.not_not, decide_eq_true_eq, z_sq, Option.bind_some, z_lits, z_n_add, z_n_mul, z_lt, z_le, z_eq, z_ne1, z_1ne, z_lt1, z_1lt, z_ltT, z_ltF, z_leT, z_leF, z_eqF, z_b_0, z_b_1, ↓reduceIte, eq_self, not_true_eq_false, not_false_eq_true, and_true, true_and, and_false, false_and, Nat.add_zero, Nat.zero_add]
  have k42 := M_cnt42 (n := n) B c he
  by_cases e0 : e = 0
  · subst e0
    refine h_pair.same ho (r := z_n (z_sum 24 (u_cn I 0))) ?_ ?_ m
    · simp (disch := omega) only [f_Rs_count, o2, o4, C_told B, or_true, true_or, or_false, false_or, z_b_T, z_b_F, Bool.false_eq_true, Classical.not_not, decide_eq_true_eq, z_sq, Option.bind_some, z_lits, z_n_add, z_n_mul, z_lt, z_le, z_eq, z_ne1, z_1ne, z_lt1, z_1lt, z_ltT, z_ltF, z_leT, z_leF, z_eqF, z_b_0, z_b_1, ↓reduceIte, eq_self, not_true_eq_false, not_false_eq_true, and_true, true_and, and_false, false_and, Nat.add_zero, Nat.zero_add]
    · simp (disch := omega) only [f_Mo_count, M_thr hS, M_win, k42, or_true, true_or, or_false, false_or, z_b_T, z_b_F, Bool.false_eq_true, Classical.not_not, decide_eq_true_eq, z_sq, Option.bind_some, z_lits, z_n_add, z_n_mul, z_lt, z_le, z_eq, z_ne1, z_1ne, z_lt1, z_1lt, z_ltT, z_ltF, z_leT, z_leF, z_eqF, z_b_0, z_b_1, ↓reduceIte, eq_self, not_true_eq_false, not_false_eq_true, and_true, true_and, and_false, false_and, Nat.add_zero, Nat.zero_add]
  by_cases e1 : e = 1
  · subst e1
    refine h_pair.same ho (r := z_n (z_sum 24 (u_cn I 1))) ?_ ?_ m
    · simp (disch := omega) only [f_Rs_count, o2, o4, C_readc B, or_true, true_or, or_false, false_or, z_b_T, z_b_F, Bool.false_eq_true, Classical.not_not, decide_eq_true_eq, z_sq, Option.bind_some, z_lits, z_n_add, z_n_mul, z_lt, z_le, z_eq, z_ne1, z_1ne, z_lt1, z_1lt, z_ltT, z_ltF, z_leT, z_leF, z_eqF, z_b_0, z_b_1, ↓reduceIte, eq_self, not_true_eq_false, not_false_eq_true, and_true, true_and, and_false, false_and, Nat.add_zero, Nat.zero_add]
    · simp (disch := omega) only [f_Mo_count, M_thr hS, M_win, k42, or_true, true_or, or_false, false_or, z_b_T, z_b_F, Bool.false_eq_true, Classical.not_not, decide_eq_true_eq, z_sq, Option.bind_some, z_lits, z_n_add, z_n_mul, z_lt, z_le, z_eq, z_ne1, z_1ne, z_lt1, z_1lt, z_ltT, z_ltF, z_leT, z_leF, z_eqF, z_b_0, z_b_1, ↓reduceIte, eq_self, not_true_eq_false, not_false_eq_true, and_true, true_and, and_false, false_and, Nat.add_zero, Nat.zero_add]
  by_cases e2 : e = 2
  · subst e2
    refine h_pair.same ho (r := z_n (z_sum 24 (u_cn I 2))) ?_ ?_ m
    · simp (disch := omega) only [f_Rs_count, o2, o4, C_linec B, or_true, true_or, or_false, false_or, z_b_T, z_b_F, Bool.false_eq_true, Classical.not_not, decide_eq_true_eq, z_sq, Option.bind_some, z_lits, z_n_add, z_n_mul, z_lt, z_le, z_eq, z_ne1, z_1ne, z_lt1, z_1lt, z_ltT, z_ltF, z_leT, z_leF, z_eqF, z_b_0, z_b_1, ↓reduceIte, eq_self, not_true_eq_false, not_false_eq_true, and_true, true_and, and_false, false_and, Nat.add_zero, Nat.zero_add]
    · simp (disch := omega) only [f_Mo_count, M_thr hS, M_win, k42, or_true, true_or, or_false, false_or, z_b_T, z_b_F, Bool.false_eq_true, Classical.not_not, decide_eq_true_eq, z_sq, Option.bind_some, z_lits, z_n_add, z_n_mul, z_lt, z_le, z_eq, z_ne1, z_1ne, z_lt1, z_1lt, z_ltT, z_ltF, z_leT, z_leF, z_eqF, z_b_0, z_b_1, ↓reduceIte, eq_self, not_true_eq_false, not_false_eq_true, and_true, true_and, and_false, false_and, Nat.add_zero, Nat.zero_add]
  by_cases e3 : e = 3
  · subst e3
    obtain ⟨Y, a1, a2, a3, a4⟩ := C_refresh (n := n) B ho
    have hY := h_B B a2
    have mY : z_mf Y J (z_up Y 83 0 (z_n 0)) J := z_mf.up rfl
    obtain ⟨Z, b1, b2⟩ := M_pieces (n := n) B (hY.2.trans mY.cg)
    refine ⟨z_n (h_n (z_th I) (h_rc I J 24)), Y, Z, ?_, a2, a4.ok B a2 a3, ?_, mY.trans b2⟩
    · simp (disch := omega) only [f_Rs_count, o1, o2, o3, a1, C_countOf (n := n) B a2 a4, or_true, true_or, or_false, false_or, z_b_T, z_b_F, Bool.false_eq_true, Classical.not_not, decide_eq_true_eq, z_sq, Option.bind_some, z_lits, z_n_add, z_n_mul, z_lt, z_le, z_eq, z_ne1, z_1ne, z_lt1, z_1lt, z_ltT, z_ltF, z_leT, z_leF, z_eqF, z_b_0, z_b_1, ↓reduceIte, eq_self, not_true_eq_false, not_false_eq_true, and_true, true_and, and_false, false_and, Nat.add_zero, Nat.zero_add]
    · simp (disch := omega) only [f_Mo_count, M_thr hS, M_win, om, b1, or_true, true_or, or_false, false_or, z_b_T, z_b_F, Bool.false_eq_true, Classical.not_not, decide_eq_true_eq, z_sq, Option.bind_some, z_lits, z_n_add, z_n_mul, z_lt, z_le, z_eq, z_ne1, z_1ne, z_lt1, z_1lt, z_ltT, z_ltF, z_leT, z_leF, z_eqF, z_b_0, z_b_1, ↓reduceIte, eq_self, not_true_eq_false, not_false_eq_true, and_true, true_and, and_false, false_and, Nat.add_zero, Nat.zero_add]
  by_cases e4 : e = 4
  · subst e4
    have e27 := B.qC.2.2.2.2
    have f27 : z_up I 83 0 (z_n 0) 83 32 = I 83 32 := by rw [z_up_e, if_neg (by decide)]
    refine h_pair.same ho (r := I 83 32) ?_ ?_ m
    · simp (disch := omega) only [f_Rs_count, (C_lives hS hP).1, z_Lir hS hP, e27, or_true, true_or, or_false, false_or, z_b_T, z_b_F, Bool.false_eq_true, Classical.not_not, decide_eq_true_eq, z_sq, Option.bind_some, z_lits, z_n_add, z_n_mul, z_lt, z_le, z_eq, z_ne1, z_1ne, z_lt1, z_1lt, z_ltT, z_ltF, z_leT, z_leF, z_eqF, z_b_0, z_b_1, ↓reduceIte, eq_self, not_true_eq_false, not_false_eq_true, and_true, true_and, and_false, false_and, Nat.add_zero, Nat.zero_add]
    · simp (disch := omega) only [f_Mo_count, M_thr hS, M_win, k42, z_Mr hS hP, f27, or_true, true_or, or_false, false_or, z_b_T, z_b_F, Bool.false_eq_true, Classical.not_not, decide_eq_true_eq, z_sq, Option.bind_some, z_lits, z_n_add, z_n_mul, z_lt, z_le, z_eq, z_ne1, z_1ne, z_lt1, z_1lt, z_ltT, z_ltF, z_leT, z_leF, z_eqF, z_b_0, z_b_1, ↓reduceIte, eq_self, not_true_eq_false, not_false_eq_true, and_true, true_and, and_false, false_and, Nat.add_zero, Nat.zero_add]
  by_cases e5 : e = 5
  · subst e5
    have l4 : ∀ k, k < 4 → I 104 k = z_n (u_ln I k) := by
      intro k hk
      obtain ⟨q, c, t, m', z, N, w, h1, -, ⟨h2, h3, h4, h5, h6, h7, h8⟩, -⟩ := H.2.2.2.2.1 k hk
      unfold u_ln
      rw [h7, z_n_nat (by omega)]
    have f : ∀ k, z_up I 83 0 (z_n 0) 104 k = I 104 k := fun k => by rw [z_up_r (by decide)]
    have s4 : z_sum 4 (u_ln I) = u_ln I 0 + u_ln I 1 + u_ln I 2 + u_ln I 3 := by
      rw [z_sum_s, z_sum_s, z_sum_s, z_sum_s, z_sum_0, Nat.zero_add]
    have l0 := l4 0 (by omega)
    have l1 := l4 1 (by omega)
    have l2 := l4 2 (by omega)
    have l3 := l4 3 (by omega)
    refine h_pair.same ho (r := z_n (z_sum 4 (u_ln I))) ?_ ?_ m
    · simp (disch := omega) only [f_Rs_count, o5, C_lawLines H, or_true, true_or, or_false, false_or, z_b_T, z_b_F, Bool.false_eq_true, Classical.not_not, decide_eq_true_eq, z_sq, Option.bind_some, z_lits, z_n_add, z_n_mul, z_lt, z_le, z_eq, z_ne1, z_1ne, z_lt1, z_1lt, z_ltT, z_ltF, z_leT, z_leF, z_eqF, z_b_0, z_b_1, ↓reduceIte, eq_self, not_true_eq_false, not_false_eq_true, and_true, true_and, and_false, false_and, Nat.add_zero, Nat.zero_add]
    · rw [s4]
      simp (disch := omega) only [f_Mo_count, M_thr hS, M_win, k42, z_Mr hS hP, f, l0, l1, l2, l3, or_true, true_or, or_false, false_or, z_b_T, z_b_F, Bool.false_eq_true, Classical.not_not, decide_eq_true_eq, z_sq, Option.bind_some, z_lits, z_n_add, z_n_mul, z_lt, z_le, z_eq, z_ne1, z_1ne, z_lt1, z_1lt, z_ltT, z_ltF, z_leT, z_leF, z_eqF, z_b_0, z_b_1, ↓reduceIte, eq_self, not_true_eq_false, not_false_eq_true, and_true, true_and, and_false, false_and, Nat.add_zero, Nat.zero_add]
  by_cases e6 : e = 6
  · subst e6
    obtain ⟨N, t1, t2, t3, -⟩ := H.2.2.1
    have f16 : z_up I 83 0 (z_n 0) 83 16 = z_n N := by rw [z_up_e, if_neg (by decide)]; exact t3
    have g9 : q_gr (q_gf (z_h S I J P n) 0 8 0) = some 9 := z_gr (s_8 hS) rfl (p_8_0 hP)
    refine h_pair.same ho (r := z_n N) ?_ ?_ m
    · simp (disch := omega) only [f_Rs_count, g9, z_Tar hS hP, t2, or_true, true_or, or_false, false_or, z_b_T, z_b_F, Bool.false_eq_true, Classical.not_not, decide_eq_true_eq, z_sq, Option.bind_some, z_lits, z_n_add, z_n_mul, z_lt, z_le, z_eq, z_ne1, z_1ne, z_lt1, z_1lt, z_ltT, z_ltF, z_leT, z_leF, z_eqF, z_b_0, z_b_1, ↓reduceIte, eq_self, not_true_eq_false, not_false_eq_true, and_true, true_and, and_false, false_and, Nat.add_zero, Nat.zero_add]
    · simp (disch := omega) only [f_Mo_count, M_thr hS, M_win, k42, z_Mr hS hP, f16, or_true, true_or, or_false, false_or, z_b_T, z_b_F, Bool.false_eq_true, Classical.not_not, decide_eq_true_eq, z_sq, Option.bind_some, z_lits, z_n_add, z_n_mul, z_lt, z_le, z_eq, z_ne1, z_1ne, z_lt1, z_1lt, z_ltT, z_ltF, z_leT, z_leF, z_eqF, z_b_0, z_b_1, ↓reduceIte, eq_self, not_true_eq_false, not_false_eq_true, and_true, true_and, and_false, false_and, Nat.add_zero, Nat.zero_add]
  · have e7 : e = 7 := by omega
    subst e7
    refine h_pair.same ho (r := z_n (u_tys I 24)) ?_ ?_ m
    · simp (disch := omega) only [f_Rs_count, o5, C_unfree B, or_true, true_or, or_false, false_or, z_b_T, z_b_F, Bool.false_eq_true, Classical.not_not, decide_eq_true_eq, z_sq, Option.bind_some, z_lits, z_n_add, z_n_mul, z_lt, z_le, z_eq, z_ne1, z_1ne, z_lt1, z_1lt, z_ltT, z_ltF, z_leT, z_leF, z_eqF, z_b_0, z_b_1, ↓reduceIte, eq_self, not_true_eq_false, not_false_eq_true, and_true, true_and, and_false, false_and, Nat.add_zero, Nat.zero_add]
    · simp (disch := omega) only [f_Mo_count, M_thr hS, M_win, om, M_ties B c, or_true, true_or, or_false, false_or, z_b_T, z_b_F, Bool.false_eq_true, Classical.not_not, decide_eq_true_eq, z_sq, Option.bind_some, z_lits, z_n_add, z_n_mul, z_lt, z_le, z_eq, z_ne1, z_1ne, z_lt1, z_1lt, z_ltT, z_ltF, z_leT, z_leF, z_eqF, z_b_0, z_b_1, ↓reduceIte, eq_self, not_true_eq_false, not_false_eq_true, and_true, true_and, and_false, false_and, Nat.add_zero, Nat.zero_add]
end
