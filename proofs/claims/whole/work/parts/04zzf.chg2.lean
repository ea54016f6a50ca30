/-! SIDE, SHEET, MAY, FORGET, TABLE, GAP: the pairs. -/
section
variable {S : z_SH} {I : z_MI} {J : z_MJ} {P : z_MP} {K : Nat → Bool} {n : Nat × Nat}
theorem z_ups {X : z_MI} {a b i : Nat} {v : Int32} (h : b ≠ a) : z_up X a i v b = X b := z_up_r h
set_option maxRecDepth 100000 in
set_option maxHeartbeats 4000000 in
theorem X_side (H : Inv S I J P K n.1) (a b : Int32) : z_call (f_Rs_side 8 a b) (f_Mo_side 83 a b) S I J P n := by
  have B := H.1
  have hS := B.qS
  have hP := B.qP
  obtain ⟨o1, o2, o3, o4, o5⟩ := C_hob (n := n) hS hP
  rcases z_in a 5 (by omega) with ⟨v, hv, rfl⟩ | ha
  rotate_left
  · refine z_call.no (r := z_n 0) H ?_ ?_
    · simp (disch := omega) only [f_Rs_side, C_out ha, or_true, true_or, or_false, false_or, z_b_T, z_b_F, Bool.false_eq_true, Classical.not_not, decide_eq_true_eq, z_sq, Option.bind_some, z_lits, z_n_add, z_n_mul, z_lt, z_le, z_eq, z_ne1, z_1ne, z_lt1, z_1lt, z_ltT, z_ltF, z_leT, z_leF, z_eqF, z_b_0, z_b_1, ↓reduceIte, eq_self, not_true_eq_false, not_false_eq_true, and_true, true_and, and_false, false_and, Nat.add_zero, Nat.zero_add]
    · simp (disch := omega) only [f_Mo_side, M_thr hS, M_wout ha, or_true, true_or, or_false, false_or, z_b_T, z_b_F, Bool.false_eq_true, Classical.not_not, decide_eq_true_eq, z_sq, Option.bind_some, z_lits, z_n_add, z_n_mul, z_lt, z_le, z_eq, z_ne1, z_1ne, z_lt1, z_1lt, z_ltT, z_ltF, z_leT, z_leF, z_eqF, z_b_0, z_b_1, ↓reduceIte, eq_self, not_true_eq_false, not_false_eq_true, and_true, true_and, and_false, false_and, Nat.add_zero, Nat.zero_add]
  rcases z_in b 1 (by omega) with ⟨x, hx, rfl⟩ | hb
  rotate_left
  · refine z_call.no (r := z_n 0) H ?_ ?_
    · simp (disch := omega) only [f_Rs_side, C_in, C_out hb, or_true, true_or, or_false, false_or, z_b_T, z_b_F, Bool.false_eq_true, Classical.not_not, decide_eq_true_eq, z_sq, Option.bind_some, z_lits, z_n_add, z_n_mul, z_lt, z_le, z_eq, z_ne1, z_1ne, z_lt1, z_1lt, z_ltT, z_ltF, z_leT, z_leF, z_eqF, z_b_0, z_b_1, ↓reduceIte, eq_self, not_true_eq_false, not_false_eq_true, and_true, true_and, and_false, false_and, Nat.add_zero, Nat.zero_add]
    · simp (disch := omega) only [f_Mo_side, M_thr hS, M_win, M_wout hb, or_true, true_or, or_false, false_or, z_b_T, z_b_F, Bool.false_eq_true, Classical.not_not, decide_eq_true_eq, z_sq, Option.bind_some, z_lits, z_n_add, z_n_mul, z_lt, z_le, z_eq, z_ne1, z_1ne, z_lt1, z_1lt, z_ltT, z_ltF, z_leT, z_leF, z_eqF, z_b_0, z_b_1, ↓reduceIte, eq_self, not_true_eq_false, not_false_eq_true, and_true, true_and, and_false, false_and, Nat.add_zero, Nat.zero_add]
  refine ⟨z_n 1, S, z_up I 19 v (z_n x), J, P, n, K, z_up (z_up (z_up I 19 v (z_n x)) 83 0 (z_n 0)) 84 v (z_n x), J, ?_, ?_, ⟨by omega, by omega, by omega⟩, ?_⟩
  · simp (disch := omega) only [f_Rs_side, C_in, o2, z_Shr hS hP, z_Shw hS, or_true, true_or, or_false, false_or, z_b_T, z_b_F, Bool.false_eq_true, Classical.not_not, decide_eq_true_eq, z_sq, Option.bind_some, z_lits, z_n_add, z_n_mul, z_lt, z_le, z_eq, z_ne1, z_1ne, z_lt1, z_1lt, z_ltT, z_ltF, z_leT, z_leF, z_eqF, z_b_0, z_b_1, ↓reduceIte, eq_self, not_true_eq_false, not_false_eq_true, and_true, true_and, and_false, false_and, Nat.add_zero, Nat.zero_add]
  · simp (disch := omega) only [f_Mo_side, M_thr hS, M_win, z_Mr hS hP, z_Mw hS, or_true, true_or, or_false, false_or, z_b_T, z_b_F, Bool.false_eq_true, Classical.not_not, decide_eq_true_eq, z_sq, Option.bind_some, z_lits, z_n_add, z_n_mul, z_lt, z_le, z_eq, z_ne1, z_1ne, z_lt1, z_1lt, z_ltT, z_ltF, z_leT, z_leF, z_eqF, z_b_0, z_b_1, ↓reduceIte, eq_self, not_true_eq_false, not_false_eq_true, and_true, true_and, and_false, false_and, Nat.add_zero, Nat.zero_add]
  have e : ∀ a, a ≠ 19 → a ≠ 83 → a ≠ 84 → z_up (z_up (z_up I 19 v (z_n x)) 83 0 (z_n 0)) 84 v (z_n x) a = I a := fun a h1 h2 h3 => by rw [z_ups h3, z_ups h2, z_ups h1]
  have e83 : ∀ i, i ≠ 0 → z_up (z_up (z_up I 19 v (z_n x)) 83 0 (z_n 0)) 84 v (z_n x) 83 i = I 83 i := fun i hi => by rw [z_ups (by decide), z_up_e, if_neg hi, z_ups (by decide)]
  have e84 : ∀ i, z_up (z_up (z_up I 19 v (z_n x)) 83 0 (z_n 0)) 84 v (z_n x) 84 i = if i = v then z_n x else I 84 i := fun i => by rw [z_up_e, z_ups (by decide), z_ups (by decide)]
  have e19 : ∀ i, z_up (z_up (z_up I 19 v (z_n x)) 83 0 (z_n 0)) 84 v (z_n x) 19 i = if i = v then z_n x else I 19 i := fun i => by rw [z_ups (by decide), z_ups (by decide), z_up_e]
  generalize z_up (z_up (z_up I 19 v (z_n x)) 83 0 (z_n 0)) 84 v (z_n x) = Y at *
  have hc : h_cg I J Y J := fun a ha => ⟨e a (by unfold h_hra at ha; simp only [Bool.or_eq_true, Bool.and_eq_true, decide_eq_true_eq] at ha; omega) (by unfold h_hra at ha; simp only [Bool.or_eq_true, Bool.and_eq_true, decide_eq_true_eq] at ha; omega) (by unfold h_hra at ha; simp only [Bool.or_eq_true, Bool.and_eq_true, decide_eq_true_eq] at ha; omega), rfl⟩
  obtain ⟨m1, m2, m3, m4, m5, m6, m7⟩ := B.2.2.2.1
  obtain ⟨c1, c2, c3, c4, c5⟩ := B.qC
  refine H.set (fun a ha => ⟨e a (by omega) (by omega) (by omega), rfl⟩) (e83 16 (by decide)) (fun _ _ => rfl) (z_iM.set B.2.2.2.1 (fun a h1 h2 => ⟨e a (by omega) (by omega) (by omega), rfl⟩) (fun s hs => ?_) (fun s hs => ?_) (fun u hu => ?_) (fun i hi => ?_) ?_) ⟨fun s hs => ?_, fun u hu => ?_, fun t k ht hk => ?_, fun i hi => ?_, ?_⟩ (H.2.1.set hc (fun a h1 h2 => e a (by omega) (by omega) (by omega))) (fun s hs => ?_)
  · rw [z_vi_w hc, hc.i 87 rfl]; exact m2 s hs
  · rw [hc.i 85 rfl, hc.i 86 rfl, hc.i 88 rfl, e 89 (by decide) (by decide) (by decide)]; exact m4 s hs
  · rw [e84]
    by_cases q : u = v
    · rw [if_pos q]
      have : x = 0 ∨ x = 1 := by omega
      rcases this with rfl | rfl
      · exact Or.inl rfl
      · exact Or.inr rfl
    · rw [if_neg q]; exact m5 u hu
  · rw [e 101 (by decide) (by decide) (by decide)]; exact m6 i hi
  · rw [e83 32 (by decide), e 103 (by decide) (by decide) (by decide)]; exact m7
  · rw [e 14 (by decide) (by decide) (by decide), e 15 (by decide) (by decide) (by decide), e 16 (by decide) (by decide) (by decide), e 17 (by decide) (by decide) (by decide), hc.i 85 rfl, hc.i 87 rfl, hc.i 88 rfl, e 89 (by decide) (by decide) (by decide)]; exact c1 s hs
  · rw [e84, e19, c2 u hu]
  · rw [e (29 + t) (by omega) (by omega) (by omega), e 101 (by decide) (by decide) (by decide)]; exact c3 t k ht hk
  · rw [e 33 (by decide) (by decide) (by decide), e 103 (by decide) (by decide) (by decide)]; exact c4 i hi
  · rw [e 27 (by decide) (by decide) (by decide), e83 32 (by decide)]; exact c5
  · rw [z_th_w hc, z_Ds_w hc]; exact B.2.2.2.2.2 s hs
set_option maxRecDepth 100000 in
set_option maxHeartbeats 4000000 in
theorem X_may (H : Inv S I J P K n.1) (a b : Int32) : z_call (f_Rs_may 8 a b) (f_Mo_may 83 a b) S I J P n := by
  have B := H.1
  have hS := B.qS
  have hP := B.qP
  obtain ⟨o1, o2, o3, o4, o5⟩ := C_hob (n := n) hS hP
  have om := fun I J => z_ob (I := I) (J := J) (P := P) (n := n) (s_83 hS)
  rcases z_in a 23 (by omega) with ⟨v, hv, rfl⟩ | ha
  rotate_left
  · refine z_call.no (r := z_n 0) H ?_ ?_
    · simp (disch := omega) only [f_Rs_may, o2, o4, f_Sf_isTold, C_out ha, or_true, true_or, or_false, false_or, z_b_T, z_b_F, Bool.false_eq_true, Classical.not_not, decide_eq_true_eq, z_sq, Option.bind_some, z_lits, z_n_add, z_n_mul, z_lt, z_le, z_eq, z_ne1, z_1ne, z_lt1, z_1lt, z_ltT, z_ltF, z_leT, z_leF, z_eqF, z_b_0, z_b_1, ↓reduceIte, eq_self, not_true_eq_false, not_false_eq_true, and_true, true_and, and_false, false_and, Nat.add_zero, Nat.zero_add]
    · simp (disch := omega) only [f_Mo_may, M_thr hS, om, M_isSheet_o hS hP ha, or_true, true_or, or_false, false_or, z_b_T, z_b_F, Bool.false_eq_true, Classical.not_not, decide_eq_true_eq, z_sq, Option.bind_some, z_lits, z_n_add, z_n_mul, z_lt, z_le, z_eq, z_ne1, z_1ne, z_lt1, z_1lt, z_ltT, z_ltF, z_leT, z_leF, z_eqF, z_b_0, z_b_1, ↓reduceIte, eq_self, not_true_eq_false, not_false_eq_true, and_true, true_and, and_false, false_and, Nat.add_zero, Nat.zero_add]
  have e14 := (B.qC.1 v (by omega)).1
  have is := M_isSheet (n := n) (I := z_up I 83 0 (z_n 0)) (J := J) hS hP (show v < 24 by omega)
  rw [z_ups (by decide)] at is
  rcases z_tf (I 85 v = z_n 0) with t | t
  · refine z_call.no (r := z_n 0) H ?_ ?_
    · simp (disch := omega) only [f_Rs_may, o2, o4, f_Sf_isTold, C_in, z_Shr hS hP, e14, t, or_true, true_or, or_false, false_or, z_b_T, z_b_F, Bool.false_eq_true, Classical.not_not, decide_eq_true_eq, z_sq, Option.bind_some, z_lits, z_n_add, z_n_mul, z_lt, z_le, z_eq, z_ne1, z_1ne, z_lt1, z_1lt, z_ltT, z_ltF, z_leT, z_leF, z_eqF, z_b_0, z_b_1, ↓reduceIte, eq_self, not_true_eq_false, not_false_eq_true, and_true, true_and, and_false, false_and, Nat.add_zero, Nat.zero_add]
    · rw [z_b_f (fun q => q (of_eq_true t))] at is
      simp (disch := omega) only [f_Mo_may, M_thr hS, om, is, or_true, true_or, or_false, false_or, z_b_T, z_b_F, Bool.false_eq_true, Classical.not_not, decide_eq_true_eq, z_sq, Option.bind_some, z_lits, z_n_add, z_n_mul, z_lt, z_le, z_eq, z_ne1, z_1ne, z_lt1, z_1lt, z_ltT, z_ltF, z_leT, z_leF, z_eqF, z_b_0, z_b_1, ↓reduceIte, eq_self, not_true_eq_false, not_false_eq_true, and_true, true_and, and_false, false_and, Nat.add_zero, Nat.zero_add]
  rw [z_b_t (of_eq_false t)] at is
  have ct : f_Sf_isTold 13 (z_n v) (z_h S I J P n) = some (z_n 1, z_h S I J P n) := by
    simp (disch := omega) only [f_Sf_isTold, C_in, z_Shr hS hP, e14, t, or_true, true_or, or_false, false_or, z_b_T, z_b_F, Bool.false_eq_true, Classical.not_not, decide_eq_true_eq, z_sq, Option.bind_some, z_lits, z_n_add, z_n_mul, z_lt, z_le, z_eq, z_ne1, z_1ne, z_lt1, z_1lt, z_ltT, z_ltF, z_leT, z_leF, z_eqF, z_b_0, z_b_1, ↓reduceIte, eq_self, not_true_eq_false, not_false_eq_true, and_true, true_and, and_false, false_and, Nat.add_zero, Nat.zero_add]
  rcases z_in b 20 (by omega) with ⟨x, hx, rfl⟩ | hb
  rotate_left
  · refine z_call.no (r := z_n 0) H ?_ ?_
    · simp (disch := omega) only [f_Rs_may, o2, o4, ct, C_out hb, or_true, true_or, or_false, false_or, z_b_T, z_b_F, Bool.false_eq_true, Classical.not_not, decide_eq_true_eq, z_sq, Option.bind_some, z_lits, z_n_add, z_n_mul, z_lt, z_le, z_eq, z_ne1, z_1ne, z_lt1, z_1lt, z_ltT, z_ltF, z_leT, z_leF, z_eqF, z_b_0, z_b_1, ↓reduceIte, eq_self, not_true_eq_false, not_false_eq_true, and_true, true_and, and_false, false_and, Nat.add_zero, Nat.zero_add]
    · simp (disch := omega) only [f_Mo_may, M_thr hS, om, is, M_wout hb, or_true, true_or, or_false, false_or, z_b_T, z_b_F, Bool.false_eq_true, Classical.not_not, decide_eq_true_eq, z_sq, Option.bind_some, z_lits, z_n_add, z_n_mul, z_lt, z_le, z_eq, z_ne1, z_1ne, z_lt1, z_1lt, z_ltT, z_ltF, z_leT, z_leF, z_eqF, z_b_0, z_b_1, ↓reduceIte, eq_self, not_true_eq_false, not_false_eq_true, and_true, true_and, and_false, false_and, Nat.add_zero, Nat.zero_add]
  have is2 := M_isSheet (n := n) (I := z_up (z_up I 17 v (z_n x)) 83 0 (z_n 0)) (J := J) hS hP (show v < 24 by omega)
  rw [z_ups (by decide), z_ups (by decide), z_b_t (of_eq_false t)] at is2
  refine ⟨z_n 1, S, z_up I 17 v (z_n x), J, P, n, K, z_up (z_up (z_up I 17 v (z_n x)) 83 0 (z_n 0)) 89 v (z_n x), J, ?_, ?_, ⟨by omega, by omega, by omega⟩, ?_⟩
  · simp (disch := omega) only [f_Rs_may, o2, o4, ct, C_in, z_Shr hS hP, z_Shw hS, or_true, true_or, or_false, false_or, z_b_T, z_b_F, Bool.false_eq_true, Classical.not_not, decide_eq_true_eq, z_sq, Option.bind_some, z_lits, z_n_add, z_n_mul, z_lt, z_le, z_eq, z_ne1, z_1ne, z_lt1, z_1lt, z_ltT, z_ltF, z_leT, z_leF, z_eqF, z_b_0, z_b_1, ↓reduceIte, eq_self, not_true_eq_false, not_false_eq_true, and_true, true_and, and_false, false_and, Nat.add_zero, Nat.zero_add]
  · simp (disch := omega) only [f_Mo_may, M_thr hS, om, is2, M_win, z_Mr hS hP, z_Mw hS, or_true, true_or, or_false, false_or, z_b_T, z_b_F, Bool.false_eq_true, Classical.not_not, decide_eq_true_eq, z_sq, Option.bind_some, z_lits, z_n_add, z_n_mul, z_lt, z_le, z_eq, z_ne1, z_1ne, z_lt1, z_1lt, z_ltT, z_ltF, z_leT, z_leF, z_eqF, z_b_0, z_b_1, ↓reduceIte, eq_self, not_true_eq_false, not_false_eq_true, and_true, true_and, and_false, false_and, Nat.add_zero, Nat.zero_add]
  have e : ∀ a, a ≠ 17 → a ≠ 83 → a ≠ 89 → z_up (z_up (z_up I 17 v (z_n x)) 83 0 (z_n 0)) 89 v (z_n x) a = I a := fun a h1 h2 h3 => by rw [z_ups h3, z_ups h2, z_ups h1]
  have e83 : ∀ i, i ≠ 0 → z_up (z_up (z_up I 17 v (z_n x)) 83 0 (z_n 0)) 89 v (z_n x) 83 i = I 83 i := fun i hi => by rw [z_ups (by decide), z_up_e, if_neg hi, z_ups (by decide)]
  have e89 : ∀ i, z_up (z_up (z_up I 17 v (z_n x)) 83 0 (z_n 0)) 89 v (z_n x) 89 i = if i = v then z_n x else I 89 i := fun i => by rw [z_up_e, z_ups (by decide), z_ups (by decide)]
  have e17 : ∀ i, z_up (z_up (z_up I 17 v (z_n x)) 83 0 (z_n 0)) 89 v (z_n x) 17 i = if i = v then z_n x else I 17 i := fun i => by rw [z_ups (by decide), z_ups (by decide), z_up_e]
  generalize z_up (z_up (z_up I 17 v (z_n x)) 83 0 (z_n 0)) 89 v (z_n x) = Y at *
  have hc : h_cg I J Y J := fun a ha => ⟨e a (by unfold h_hra at ha; simp only [Bool.or_eq_true, Bool.and_eq_true, decide_eq_true_eq] at ha; omega) (by unfold h_hra at ha; simp only [Bool.or_eq_true, Bool.and_eq_true, decide_eq_true_eq] at ha; omega) (by unfold h_hra at ha; simp only [Bool.or_eq_true, Bool.and_eq_true, decide_eq_true_eq] at ha; omega), rfl⟩
  obtain ⟨m1, m2, m3, m4, m5, m6, m7⟩ := B.2.2.2.1
  obtain ⟨c1, c2, c3, c4, c5⟩ := B.qC
  refine H.set (fun a ha => ⟨e a (by omega) (by omega) (by omega), rfl⟩) (e83 16 (by decide)) (fun _ _ => rfl) (z_iM.set B.2.2.2.1 (fun a h1 h2 => ⟨e a (by omega) (by omega) (by omega), rfl⟩) (fun s hs => ?_) (fun s hs => ?_) (fun u hu => ?_) (fun i hi => ?_) ?_) ⟨fun s hs => ?_, fun u hu => ?_, fun t k ht hk => ?_, fun i hi => ?_, ?_⟩ (H.2.1.set hc (fun a h1 h2 => e a (by omega) (by omega) (by omega))) (fun s hs => ?_)
  · rw [z_vi_w hc, hc.i 87 rfl]; exact m2 s hs
  · obtain ⟨k1, k2, k3, k4, k5⟩ := m4 s hs
    rw [hc.i 85 rfl, hc.i 86 rfl, hc.i 88 rfl, e89]
    refine ⟨k1, k2, k3, k4, ?_⟩
    by_cases q : s = v
    · rw [if_pos q]; exact ⟨x, rfl, hx⟩
    · rw [if_neg q]; exact k5
  · rw [e 84 (by decide) (by decide) (by decide)]; exact m5 u hu
  · rw [e 101 (by decide) (by decide) (by decide)]; exact m6 i hi
  · rw [e83 32 (by decide), e 103 (by decide) (by decide) (by decide)]; exact m7
  · obtain ⟨k1, k2, k3, k4⟩ := c1 s hs
    rw [e 14 (by decide) (by decide) (by decide), e 15 (by decide) (by decide) (by decide), e 16 (by decide) (by decide) (by decide), e17, hc.i 85 rfl, hc.i 87 rfl, hc.i 88 rfl, e89, k4]
    exact ⟨k1, k2, k3, rfl⟩
  · rw [e 19 (by decide) (by decide) (by decide), e 84 (by decide) (by decide) (by decide)]; exact c2 u hu
  · rw [e (29 + t) (by omega) (by omega) (by omega), e 101 (by decide) (by decide) (by decide)]; exact c3 t k ht hk
  · rw [e 33 (by decide) (by decide) (by decide), e 103 (by decide) (by decide) (by decide)]; exact c4 i hi
  · rw [e 27 (by decide) (by decide) (by decide), e83 32 (by decide)]; exact c5
  · rw [z_th_w hc, z_Ds_w hc]; exact B.2.2.2.2.2 s hs
end
