/-! next, heaping. -/
section
variable {S : z_SH} {I : z_MI} {J : z_MJ} {P : z_MP} {K : Nat → Bool} {n : Nat × Nat}
/-- MARRIAGES of a VILLAGE -/
def u_mv (I : z_MI) (J : z_MJ) (v : Int32) : Nat := z_co I J (z_n 1) v (-z_n 1) (z_n 31) (z_n 2)
set_option maxRecDepth 100000 in
set_option maxHeartbeats 4000000 in
theorem C_marriagesOf (B : z_B S I J P K n.1) (v : Int32) : f_Sf_marriagesOf 13 v (z_h S I J P n) = some (z_n (u_mv I J v), z_h S I J P n) := by
  have hS := B.qS
  have hP := B.qP
  have h := z_run (fun m i => f_Sf_marriagesOf_L4 13 v m (z_n (z_sum i (z_cs I J (z_n 1) v (-z_n 1) (z_n 31) (z_n 2)))) (z_n i) (z_h S I J P n)) 24 (r := some (z_n (u_mv I J v), z_h S I J P n)) (by omega)
    (by
      intro m i hi
      have pw := C_pageWithin B (b := v) hi (Or.inr (Or.inl rfl))
      have ec : z_cs I J (z_n 1) v (-z_n 1) (z_n 31) (z_n 2) i = if z_ii I i (z_n 1) v = true then z_one I J i 31 else 0 := by
        rw [z_cs_D]
        simp (disch := omega) only [z_ne1, not_false_eq_true, true_and]
        rfl
      by_cases hii : z_ii I i (z_n 1) v = true
      · rcases B.pg hi with ⟨h5, h6⟩ | ⟨h5, p, h6, h7⟩
        · unfold z_ii at hii
          rw [h5] at hii
          simp at hii
        · have k2 := C_all (J := J) (n := n) h7.ty (lv := 0) (by omega)
          rw [Nat.sub_zero, ← z_one_31] at k2
          have r3 := z_ps_r h7.2.1
          simp (disch := omega) only [f_Sf_marriagesOf_L4, z_ob (s_13 hS), pw, hii, h6, r3, k2, z_sum_s, ec, or_true, true_or, or_false, false_or, z_b_T, z_b_F, Bool.false_eq_true, Classical.not_not, decide_eq_true_eq, z_sq, Option.bind_some, z_lits, z_n_add, z_n_mul, z_lt, z_le, z_eq, z_ne1, z_1ne, z_lt1, z_1lt, z_ltT, z_ltF, z_leT, z_leF, z_eqF, z_b_0, z_b_1, ↓reduceIte, eq_self, not_true_eq_false, not_false_eq_true, and_true, true_and, and_false, false_and, Nat.add_zero, Nat.zero_add]
      · simp (disch := omega) only [f_Sf_marriagesOf_L4, z_ob (s_13 hS), pw, hii, z_sum_s, ec, or_true, true_or, or_false, false_or, z_b_T, z_b_F, Bool.false_eq_true, Classical.not_not, decide_eq_true_eq, z_sq, Option.bind_some, z_lits, z_n_add, z_n_mul, z_lt, z_le, z_eq, z_ne1, z_1ne, z_lt1, z_1lt, z_ltT, z_ltF, z_leT, z_leF, z_eqF, z_b_0, z_b_1, ↓reduceIte, eq_self, not_true_eq_false, not_false_eq_true, and_true, true_and, and_false, false_and, Nat.add_zero, Nat.zero_add])
    (by
      intro m
      simp (disch := omega) only [f_Sf_marriagesOf_L4, or_true, true_or, or_false, false_or, z_b_T, z_b_F, Bool.false_eq_true, Classical.not_not, decide_eq_true_eq, z_sq, Option.bind_some, z_lits, z_n_add, z_n_mul, z_lt, z_le, z_eq, z_ne1, z_1ne, z_lt1, z_1lt, z_ltT, z_ltF, z_leT, z_leF, z_eqF, z_b_0, z_b_1, ↓reduceIte, eq_self, not_true_eq_false, not_false_eq_true, and_true, true_and, and_false, false_and, Nat.add_zero, Nat.zero_add]
      rfl)
  simp only [z_sum_0] at h
  simp (disch := omega) only [f_Sf_marriagesOf, h, or_true, true_or, or_false, false_or, z_b_T, z_b_F, Bool.false_eq_true, Classical.not_not, decide_eq_true_eq, z_sq, Option.bind_some, z_lits, z_n_add, z_n_mul, z_lt, z_le, z_eq, z_ne1, z_1ne, z_lt1, z_1lt, z_ltT, z_ltF, z_leT, z_leF, z_eqF, z_b_0, z_b_1, ↓reduceIte, eq_self, not_true_eq_false, not_false_eq_true, and_true, true_and, and_false, false_and, Nat.add_zero, Nat.zero_add]
theorem u_mv_le (B : z_B S I J P K n.1) (v : Int32) : u_mv I J v ≤ 288 := z_co_le J B.qL _ _ _ _ _
def u_sn (I : z_MI) (J : z_MJ) (s t : Nat) : Bool := decide (u_my I t < u_my I s ∨ (u_my I s = u_my I t ∧ u_mv I J (I 87 s) < u_mv I J (I 87 t)))
set_option maxRecDepth 100000 in
set_option maxHeartbeats 4000000 in
theorem C_isSooner (B : z_B S I J P K n.1) {s t : Nat} (hs : s < 24) (ht : t < 24) : f_Rs_isSooner 8 (z_n s) (z_n t) (z_h S I J P n) = some (z_b (u_sn I J s t = true), z_h S I J P n) := by
  have hS := B.qS
  have hP := B.qP
  have e8 : ∀ I J n, q_gr (q_gf (z_h S I J P n) 0 8 3) = some 13 := fun _ _ _ => z_gr (s_8 hS) rfl (p_8_3 hP)
  obtain ⟨a1, a2, a3, a4⟩ := B.qC.1 s hs
  obtain ⟨b1, b2, b3, b4⟩ := B.qC.1 t ht
  obtain ⟨ms, ms2⟩ := B.may hs
  obtain ⟨mt, mt2⟩ := B.may ht
  have m1 := C_marriagesOf B (I 87 s)
  have m2 := C_marriagesOf B (I 87 t)
  have l1 := u_mv_le B (I 87 s)
  have l2 := u_mv_le B (I 87 t)
  unfold u_sn
  by_cases h1 : u_my I s = u_my I t
  · by_cases h2 : u_mv I J (I 87 s) < u_mv I J (I 87 t)
    · simp (disch := omega) only [f_Rs_isSooner, e8, z_Shr hS hP, z_ob (s_13 hS), a2, a4, b2, b4, ms, mt, h1, m1, m2, h2, or_true, true_or, or_false, false_or, z_b_T, z_b_F, Bool.false_eq_true, Classical.not_not, decide_eq_true_eq, z_sq, Option.bind_some, z_lits, z_n_add, z_n_mul, z_lt, z_le, z_eq, z_ne1, z_1ne, z_lt1, z_1lt, z_ltT, z_ltF, z_leT, z_leF, z_eqF, z_b_0, z_b_1, ↓reduceIte, eq_self, not_true_eq_false, not_false_eq_true, and_true, true_and, and_false, false_and, Nat.add_zero, Nat.zero_add]
    · simp (disch := omega) only [f_Rs_isSooner, e8, z_Shr hS hP, z_ob (s_13 hS), a2, a4, b2, b4, ms, mt, h1, m1, m2, h2, or_true, true_or, or_false, false_or, z_b_T, z_b_F, Bool.false_eq_true, Classical.not_not, decide_eq_true_eq, z_sq, Option.bind_some, z_lits, z_n_add, z_n_mul, z_lt, z_le, z_eq, z_ne1, z_1ne, z_lt1, z_1lt, z_ltT, z_ltF, z_leT, z_leF, z_eqF, z_b_0, z_b_1, ↓reduceIte, eq_self, not_true_eq_false, not_false_eq_true, and_true, true_and, and_false, false_and, Nat.add_zero, Nat.zero_add]
  · by_cases h2 : u_my I t < u_my I s
    · simp (disch := omega) only [f_Rs_isSooner, e8, z_Shr hS hP, z_ob (s_13 hS), a2, a4, b2, b4, ms, mt, h1, h2, or_true, true_or, or_false, false_or, z_b_T, z_b_F, Bool.false_eq_true, Classical.not_not, decide_eq_true_eq, z_sq, Option.bind_some, z_lits, z_n_add, z_n_mul, z_lt, z_le, z_eq, z_ne1, z_1ne, z_lt1, z_1lt, z_ltT, z_ltF, z_leT, z_leF, z_eqF, z_b_0, z_b_1, ↓reduceIte, eq_self, not_true_eq_false, not_false_eq_true, and_true, true_and, and_false, false_and, Nat.add_zero, Nat.zero_add]
    · simp (disch := omega) only [f_Rs_isSooner, e8, z_Shr hS hP, z_ob (s_13 hS), a2, a4, b2, b4, ms, mt, h1, h2, or_true, true_or, or_false, false_or, z_b_T, z_b_F, Bool.false_eq_true, Classical.not_not, decide_eq_true_eq, z_sq, Option.bind_some, z_lits, z_n_add, z_n_mul, z_lt, z_le, z_eq, z_ne1, z_1ne, z_lt1, z_1lt, z_ltT, z_ltF, z_leT, z_leF, z_eqF, z_b_0, z_b_1, ↓reduceIte, eq_self, not_true_eq_false, not_false_eq_true, and_true, true_and, and_false, false_and, Nat.add_zero, Nat.zero_add]
/-- NEXT of the first ones -/
def u_nx (I : z_MI) (J : z_MJ) : Nat → Option Nat
  | 0 => none
  | i + 1 => if u_ur I i = true then match u_nx I J i with
      | none => some i
      | some j => if u_sn I J i j = true then some i else some j
    else u_nx I J i
theorem u_nx_lt (I : z_MI) (J : z_MJ) : ∀ i j, u_nx I J i = some j → j < i
  | 0, j, h => by cases h
  | i + 1, j, h => by
    have ih := u_nx_lt I J i
    rw [u_nx] at h
    split at h
    · cases e : u_nx I J i with
      | none => rw [e] at h; cases h; omega
      | some k =>
        rw [e] at h
        simp only at h
        split at h
        · cases h; omega
        · cases h; have := ih j e; omega
    · have := ih j h; omega
set_option maxRecDepth 100000 in
set_option maxHeartbeats 4000000 in
theorem X_next (B : z_B S I J P K n.1) : z_pr (f_Rs_next 8) (f_Mo_next 83) S I J P K n := by
  have hS := B.qS
  have hP := B.qP
  have m0 : z_mf I J (z_up I 83 0 (z_n 0)) J := z_mf.up rfl
  have c := m0.cg
  have e8 : ∀ I J n, q_gr (q_gf (z_h S I J P n) 0 8 3) = some 13 := fun _ _ _ => z_gr (s_8 hS) rfl (p_8_3 hP)
  have hc := z_run (fun m i => f_Rs_next_L4 8 m (z_on (u_nx I J i)) (z_n i) (z_h S I J P n)) 24 (r := some (z_on (u_nx I J 24), z_h S I J P n)) (by omega)
    (by
      intro m i hi
      have iu := C_isUnread B hi
      by_cases hu : u_ur I i = true
      · cases e : u_nx I J i with
        | none =>
          have e2 : u_nx I J (i + 1) = some i := by rw [u_nx, if_pos hu, e]
          simp (disch := omega) only [f_Rs_next_L4, e8, z_ob (s_13 hS), iu, hu, z_on, e2, or_true, true_or, or_false, false_or, z_b_T, z_b_F, Bool.false_eq_true, Classical.not_not, decide_eq_true_eq, z_sq, Option.bind_some, z_lits, z_n_add, z_n_mul, z_lt, z_le, z_eq, z_ne1, z_1ne, z_lt1, z_1lt, z_ltT, z_ltF, z_leT, z_leF, z_eqF, z_b_0, z_b_1, ↓reduceIte, eq_self, not_true_eq_false, not_false_eq_true, and_true, true_and, and_false, false_and, Nat.add_zero, Nat.zero_add]
        | some j =>
          have hj := u_nx_lt I J i j e
          have so := C_isSooner B hi (show j < 24 by omega)
          by_cases hsn : u_sn I J i j = true
          · have e2 : u_nx I J (i + 1) = some i := by rw [u_nx, if_pos hu, e]; exact if_pos hsn
            simp (disch := omega) only [f_Rs_next_L4, e8, z_ob (s_13 hS), C_gat8 hS, iu, hu, z_on, so, hsn, e2, or_true, true_or, or_false, false_or, z_b_T, z_b_F, Bool.false_eq_true, Classical.not_not, decide_eq_true_eq, z_sq, Option.bind_some, z_lits, z_n_add, z_n_mul, z_lt, z_le, z_eq, z_ne1, z_1ne, z_lt1, z_1lt, z_ltT, z_ltF, z_leT, z_leF, z_eqF, z_b_0, z_b_1, ↓reduceIte, eq_self, not_true_eq_false, not_false_eq_true, and_true, true_and, and_false, false_and, Nat.add_zero, Nat.zero_add]
          · have e2 : u_nx I J (i + 1) = some j := by rw [u_nx, if_pos hu, e]; exact if_neg hsn
            simp (disch := omega) only [f_Rs_next_L4, e8, z_ob (s_13 hS), C_gat8 hS, iu, hu, z_on, so, hsn, e2, or_true, true_or, or_false, false_or, z_b_T, z_b_F, Bool.false_eq_true, Classical.not_not, decide_eq_true_eq, z_sq, Option.bind_some, z_lits, z_n_add, z_n_mul, z_lt, z_le, z_eq, z_ne1, z_1ne, z_lt1, z_1lt, z_ltT, z_ltF, z_leT, z_leF, z_eqF, z_b_0, z_b_1, ↓reduceIte, eq_self, not_true_eq_false, not_false_eq_true, and_true, true_and, and_false, false_and, Nat.add_zero, Nat.zero_add]
      · have e2 : u_nx I J (i + 1) = u_nx I J i := by rw [u_nx, if_neg hu]
        simp (disch := omega) only [f_Rs_next_L4, e8, z_ob (s_13 hS), iu, hu, e2, or_true, true_or, or_false, false_or, z_b_T, z_b_F, Bool.false_eq_true, Classical.not_not, decide_eq_true_eq, z_sq, Option.bind_some, z_lits, z_n_add, z_n_mul, z_lt, z_le, z_eq, z_ne1, z_1ne, z_lt1, z_1lt, z_ltT, z_ltF, z_leT, z_leF, z_eqF, z_b_0, z_b_1, ↓reduceIte, eq_self, not_true_eq_false, not_false_eq_true, and_true, true_and, and_false, false_and, Nat.add_zero, Nat.zero_add])
    (by
      intro m
      simp (disch := omega) only [f_Rs_next_L4, or_true, true_or, or_false, false_or, z_b_T, z_b_F, Bool.false_eq_true, Classical.not_not, decide_eq_true_eq, z_sq, Option.bind_some, z_lits, z_n_add, z_n_mul, z_lt, z_le, z_eq, z_ne1, z_1ne, z_lt1, z_1lt, z_ltT, z_ltF, z_leT, z_leF, z_eqF, z_b_0, z_b_1, ↓reduceIte, eq_self, not_true_eq_false, not_false_eq_true, and_true, true_and, and_false, false_and, Nat.add_zero, Nat.zero_add])
  have hm := z_run (fun m i => f_Mo_next_L11 83 m (z_on (u_nx I J i)) (match u_nx I J i with | none => z_n 0 | some j => z_n (u_mv I J (I 87 j))) (z_n i) (z_h S (z_up I 83 0 (z_n 0)) J P n)) 24 (r := some (z_on (u_nx I J 24), z_h S (z_up I 83 0 (z_n 0)) J P n)) (by omega)
    (by
      intro m i hi
      have c1 := c.i 85 rfl i
      have c2 := c.i 86 rfl i
      have c3 := c.i 89 rfl
      have c4 := c.i 87 rfl i
      have co := M_count B hS hP c (n' := n) (z_n 1) (I 87 i) (-z_n 1) (z_n 31) (z_n 2)
      have eu : z_co I J (z_n 1) (I 87 i) (-z_n 1) (z_n 31) (z_n 2) = u_mv I J (I 87 i) := rfl
      rw [eu] at co
      have li := u_mv_le B (I 87 i)
      have mi := B.may hi
      by_cases hu : u_ur I i = true
      · have hu' := hu
        unfold u_ur at hu'
        obtain ⟨k1, k2⟩ := of_decide_eq_true hu'
        cases e : u_nx I J i with
        | none =>
          have e2 : u_nx I J (i + 1) = some i := by rw [u_nx, if_pos hu, e]
          have q0 : (-z_n 1 < z_n 0) = True := by decide
          simp (disch := omega) only [f_Mo_next_L11, z_Mr hS hP, c1, c2, c4, k1, k2, z_on, q0, co, e2, or_true, true_or, or_false, false_or, z_b_T, z_b_F, Bool.false_eq_true, Classical.not_not, decide_eq_true_eq, z_sq, Option.bind_some, z_lits, z_n_add, z_n_mul, z_lt, z_le, z_eq, z_ne1, z_1ne, z_lt1, z_1lt, z_ltT, z_ltF, z_leT, z_leF, z_eqF, z_b_0, z_b_1, ↓reduceIte, eq_self, not_true_eq_false, not_false_eq_true, and_true, true_and, and_false, false_and, Nat.add_zero, Nat.zero_add]
        | some j =>
          have hj := u_nx_lt I J i j e
          have mj := B.may (show j < 24 by omega)
          have lj := u_mv_le B (I 87 j)
          by_cases hsn : u_sn I J i j = true
          · have e2 : u_nx I J (i + 1) = some i := by rw [u_nx, if_pos hu, e]; exact if_pos hsn
            unfold u_sn at hsn
            have hsn := of_decide_eq_true hsn
            by_cases q1 : u_my I i = u_my I j
            · have q2 : u_mv I J (I 87 i) < u_mv I J (I 87 j) := by omega
              simp (disch := omega) only [f_Mo_next_L11, z_Mr hS hP, c1, c2, c3, c4, k1, k2, z_on, co, mi.1, mj.1, q1, q2, e2, or_true, true_or, or_false, false_or, z_b_T, z_b_F, Bool.false_eq_true, Classical.not_not, decide_eq_true_eq, z_sq, Option.bind_some, z_lits, z_n_add, z_n_mul, z_lt, z_le, z_eq, z_ne1, z_1ne, z_lt1, z_1lt, z_ltT, z_ltF, z_leT, z_leF, z_eqF, z_b_0, z_b_1, ↓reduceIte, eq_self, not_true_eq_false, not_false_eq_true, and_true, true_and, and_false, false_and, Nat.add_zero, Nat.zero_add]
            · simp (disch := omega) only [f_Mo_next_L11, z_Mr hS hP, c1, c2, c3, c4, k1, k2, z_on, co, mi.1, mj.1, q1, e2, or_true, true_or, or_false, false_or, z_b_T, z_b_F, Bool.false_eq_true, Classical.not_not, decide_eq_true_eq, z_sq, Option.bind_some, z_lits, z_n_add, z_n_mul, z_lt, z_le, z_eq, z_ne1, z_1ne, z_lt1, z_1lt, z_ltT, z_ltF, z_leT, z_leF, z_eqF, z_b_0, z_b_1, ↓reduceIte, eq_self, not_true_eq_false, not_false_eq_true, and_true, true_and, and_false, false_and, Nat.add_zero, Nat.zero_add]
          · have e2 : u_nx I J (i + 1) = some j := by rw [u_nx, if_pos hu, e]; exact if_neg hsn
            unfold u_sn at hsn
            have hsn : ¬ _ := fun q => hsn (decide_eq_true q)
            by_cases q1 : u_my I i < u_my I j
            · simp (disch := omega) only [f_Mo_next_L11, z_Mr hS hP, c1, c2, c3, c4, k1, k2, z_on, co, mi.1, mj.1, q1, e2, or_true, true_or, or_false, false_or, z_b_T, z_b_F, Bool.false_eq_true, Classical.not_not, decide_eq_true_eq, z_sq, Option.bind_some, z_lits, z_n_add, z_n_mul, z_lt, z_le, z_eq, z_ne1, z_1ne, z_lt1, z_1lt, z_ltT, z_ltF, z_leT, z_leF, z_eqF, z_b_0, z_b_1, ↓reduceIte, eq_self, not_true_eq_false, not_false_eq_true, and_true, true_and, and_false, false_and, Nat.add_zero, Nat.zero_add]
            · have q2 : u_my I i = u_my I j := by omega
              have q3 : ¬ u_mv I J (I 87 i) < u_mv I J (I 87 j) := by omega
              simp (disch := omega) only [f_Mo_next_L11, z_Mr hS hP, c1, c2, c3, c4, k1, k2, z_on, co, mi.1, mj.1, q2, q3, e2, or_true, true_or, or_false, false_or, z_b_T, z_b_F, Bool.false_eq_true, Classical.not_not, decide_eq_true_eq, z_sq, Option.bind_some, z_lits, z_n_add, z_n_mul, z_lt, z_le, z_eq, z_ne1, z_1ne, z_lt1, z_1lt, z_ltT, z_ltF, z_leT, z_leF, z_eqF, z_b_0, z_b_1, ↓reduceIte, eq_self, not_true_eq_false, not_false_eq_true, and_true, true_and, and_false, false_and, Nat.add_zero, Nat.zero_add]
      · have e2 : u_nx I J (i + 1) = u_nx I J i := by rw [u_nx, if_neg hu]
        have hu' : ¬ (¬ I 85 i = z_n 0 ∧ I 86 i = z_n 0) := fun q => hu (decide_eq_true q)
        by_cases k1 : I 85 i = z_n 0
        · simp (disch := omega) only [f_Mo_next_L11, z_Mr hS hP, c1, k1, e2, or_true, true_or, or_false, false_or, z_b_T, z_b_F, Bool.false_eq_true, Classical.not_not, decide_eq_true_eq, z_sq, Option.bind_some, z_lits, z_n_add, z_n_mul, z_lt, z_le, z_eq, z_ne1, z_1ne, z_lt1, z_1lt, z_ltT, z_ltF, z_leT, z_leF, z_eqF, z_b_0, z_b_1, ↓reduceIte, eq_self, not_true_eq_false, not_false_eq_true, and_true, true_and, and_false, false_and, Nat.add_zero, Nat.zero_add]
        · have k2 : ¬ I 86 i = z_n 0 := fun q => hu' ⟨k1, q⟩
          simp (disch := omega) only [f_Mo_next_L11, z_Mr hS hP, c1, c2, k1, k2, e2, or_true, true_or, or_false, false_or, z_b_T, z_b_F, Bool.false_eq_true, Classical.not_not, decide_eq_true_eq, z_sq, Option.bind_some, z_lits, z_n_add, z_n_mul, z_lt, z_le, z_eq, z_ne1, z_1ne, z_lt1, z_1lt, z_ltT, z_ltF, z_leT, z_leF, z_eqF, z_b_0, z_b_1, ↓reduceIte, eq_self, not_true_eq_false, not_false_eq_true, and_true, true_and, and_false, false_and, Nat.add_zero, Nat.zero_add])
    (by
      intro m
      simp (disch := omega) only [f_Mo_next_L11, or_true, true_or, or_false, false_or, z_b_T, z_b_F, Bool.false_eq_true, Classical.not_not, decide_eq_true_eq, z_sq, Option.bind_some, z_lits, z_n_add, z_n_mul, z_lt, z_le, z_eq, z_ne1, z_1ne, z_lt1, z_1lt, z_ltT, z_ltF, z_leT, z_leF, z_eqF, z_b_0, z_b_1, ↓reduceIte, eq_self, not_true_eq_false, not_false_eq_true, and_true, true_and, and_false, false_and, Nat.add_zero, Nat.zero_add])
  refine z_pr.same (r := z_on (u_nx I J 24)) ?_ ?_ m0
  · unfold f_Rs_next
    show q_sq (f_Rs_next_L4 8 q_FU (z_on (u_nx I J 0)) (z_n 0) _) _ = _
    exact congrArg (fun e => q_sq e fun t1 σ2 => some (t1, σ2)) hc
  · unfold f_Mo_next
    rw [M_thr hS, Option.bind_some]
    show q_sq (f_Mo_next_L11 83 q_FU (z_on (u_nx I J 0)) (match u_nx I J 0 with | none => z_n 0 | some j => z_n (u_mv I J (I 87 j))) (z_n 0) _) _ = _
    exact congrArg (fun e => q_sq e fun t1 σ2 => some (t1, σ2)) hm
end
