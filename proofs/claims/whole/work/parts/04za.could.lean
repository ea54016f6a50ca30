/-! GAPS: could, sisters. -/
def z_i (y : Int) : Int32 := Int32.ofInt y
theorem z_i_int {y : Int} (h1 : -1000000 ≤ y) (h2 : y ≤ 1000000) : (z_i y).toInt = y := Int32.toInt_ofInt_of_le (by omega) (by omega)
theorem z_i_lt {x y : Int} (h1 : -1000000 ≤ x) (h2 : x ≤ 1000000) (h3 : -1000000 ≤ y) (h4 : y ≤ 1000000) : (z_i x < z_i y) = (x < y) := by
  rw [Int32.lt_iff_toInt_lt, z_i_int h1 h2, z_i_int h3 h4]
theorem z_i_le {x y : Int} (h1 : -1000000 ≤ x) (h2 : x ≤ 1000000) (h3 : -1000000 ≤ y) (h4 : y ≤ 1000000) : (z_i x ≤ z_i y) = (x ≤ y) := by
  rw [Int32.le_iff_toInt_le, z_i_int h1 h2, z_i_int h3 h4]
theorem z_i_n (a : Nat) : z_n a = z_i a := (Int32.ofInt_eq_ofNat).symm
theorem z_i_add (x y : Int) : z_i x + z_i y = z_i (x + y) := (Int32.ofInt_add x y).symm
theorem z_i_sub (x y : Int) : z_i x - z_i y = z_i (x - y) := (Int32.ofInt_sub x y).symm
theorem z_i_neg (x : Int) : -z_i x = z_i (-x) := (Int32.ofInt_neg x).symm
/-- a GAP's years -/
def u_gy (I : z_MI) (i : Nat) : Int := (I 103 i).toInt
def u_gn (I : z_MI) : Nat := (I 83 32).toNatClampNeg
/-- it is asked of an AGE, with W -/
def u_as (I : z_MI) (a w i : Nat) : Bool := decide (i < u_gn I ∧ (u_gy I i).natAbs ≤ w ∧ 0 ≤ (a : Int) + u_gy I i)
def u_fc (I : z_MI) (t a i : Nat) : Nat := 10000 - u_at I t ((a : Int) + u_gy I i).toNat
def u_N (I : z_MI) (t a w : Nat) : Nat → Nat
  | 0 => 1
  | i + 1 => if u_as I a w i = true then u_N I t a w i * u_fc I t a i else u_N I t a w i
def u_B (I : z_MI) (a w : Nat) : Nat → Nat
  | 0 => 1
  | i + 1 => if u_as I a w i = true then u_B I a w i * 10000 else u_B I a w i
def u_R (I : z_MI) (a w : Nat) : Nat → Nat
  | 0 => 1
  | i + 1 => if u_as I a w i = true then u_R I a w i else u_R I a w i * 10000
theorem u_BR (I : z_MI) (a w : Nat) : ∀ i, u_B I a w i * u_R I a w i = 10000 ^ i ∧ 0 < u_B I a w i ∧ 0 < u_R I a w i
  | 0 => ⟨rfl, Nat.one_pos, Nat.one_pos⟩
  | i + 1 => by
    obtain ⟨h1, h2, h3⟩ := u_BR I a w i
    rw [u_B, u_R]
    by_cases h : u_as I a w i = true
    · rw [if_pos h, if_pos h, Nat.mul_right_comm, h1]; exact ⟨(Nat.pow_succ ..).symm, by omega, h3⟩
    · rw [if_neg h, if_neg h, ← Nat.mul_assoc, h1]; exact ⟨(Nat.pow_succ ..).symm, h2, by omega⟩
theorem u_NB (I : z_MI) (t a w : Nat) : ∀ i, u_N I t a w i ≤ u_B I a w i
  | 0 => Nat.le_refl _
  | i + 1 => by
    have h1 := u_NB I t a w i
    rw [u_N, u_B]
    by_cases h : u_as I a w i = true
    · rw [if_pos h, if_pos h]
      exact Nat.mul_le_mul h1 (by unfold u_fc; omega)
    · rw [if_neg h, if_neg h]; exact h1
theorem u_Bp (I : z_MI) (a w : Nat) {i : Nat} (h : i ≤ 4) : u_B I a w i ≤ 10000000000000000 := by
  obtain ⟨h1, h2, h3⟩ := u_BR I a w i
  have h4 : u_B I a w i * 1 ≤ u_B I a w i * u_R I a w i := Nat.mul_le_mul_left _ h3
  have h5 : (10000 : Nat) ^ i ≤ 10000 ^ 4 := Nat.pow_le_pow_right (by decide) h
  have h6 : (10000 : Nat) ^ 4 = 10000000000000000 := by decide
  omega
theorem u_NRp (I : z_MI) (t a w : Nat) {i : Nat} (h : i ≤ 4) : u_N I t a w i * u_R I a w i ≤ 10000000000000000 := by
  obtain ⟨h1, h2, h3⟩ := u_BR I a w i
  have h4 : u_N I t a w i * u_R I a w i ≤ u_B I a w i * u_R I a w i := Nat.mul_le_mul_right _ (u_NB I t a w i)
  have h5 : (10000 : Nat) ^ i ≤ 10000 ^ 4 := Nat.pow_le_pow_right (by decide) h
  have h6 : (10000 : Nat) ^ 4 = 10000000000000000 := by decide
  omega
theorem u_stop (I : z_MI) (t a w : Nat) : ∀ d, u_N I t a w (u_gn I + d) = u_N I t a w (u_gn I) ∧ u_B I a w (u_gn I + d) = u_B I a w (u_gn I)
  | 0 => ⟨rfl, rfl⟩
  | d + 1 => by
    obtain ⟨h1, h2⟩ := u_stop I t a w d
    have h : ¬ u_as I a w (u_gn I + d) = true := by unfold u_as; simp; omega
    rw [← Nat.add_assoc, u_N, u_B, if_neg h, if_neg h]
    exact ⟨h1, h2⟩
section
variable {S : z_SH} {I : z_MI} {J : z_MJ} {P : z_MP} {K : Nat → Bool} {n : Nat × Nat}
theorem z_B.gp (B : z_B S I J P K n.1) : I 83 32 = z_n (u_gn I) ∧ u_gn I ≤ 4 ∧ ∀ i, i < u_gn I → I 103 i = z_i (u_gy I i) ∧ -30 ≤ u_gy I i ∧ u_gy I i ≤ 30 := by
  obtain ⟨g, h1, h2, h3⟩ := B.2.2.2.1.2.2.2.2.2.2
  have e : u_gn I = g := by unfold u_gn; rw [h1, z_n_nat (by omega)]
  rw [e]
  refine ⟨h1, h2, fun i hi => ?_⟩
  obtain ⟨y, h4, h5, h6⟩ := h3 i hi
  have e2 : u_gy I i = y := by unfold u_gy; rw [h4]; exact z_i_int (by omega) (by omega)
  rw [e2]; exact ⟨h4, h5, h6⟩
theorem z_zpz {k : Nat} (h : k ≤ 10000) : (z_n 10000 - z_n k).toInt64 = z_z ((10000 - k : Nat)) := by
  rw [z_n_sub (by omega), z_z32 (by omega)]
set_option maxRecDepth 100000 in
set_option maxHeartbeats 4000000 in
theorem C_odds (B : z_B S I J P K n.1) {t a w : Nat} (ht : t < 4) (ha : a ≤ 120) (hw : w ≤ 30) : f_Li_oddsOfSister 27 (z_n t) (z_n a) (z_n w) (z_h S I J P n) = some (z_z ((10000000000000000 - u_N I t a w 4 * u_R I a w 4 : Nat)), z_h S I J P n) := by
  have hS := B.qS
  have hP := B.qP
  obtain ⟨g1, g2, g3⟩ := B.gp
  have e2 : q_gi (q_gf (z_h S I J P n) 4 27 2) = some (z_n (u_gn I)) := by rw [z_gi (s_27 hS) rfl, B.qC.2.2.2.2, g1]
  have e1 : q_gr (q_gf (z_h S I J P n) 4 27 1) = some 33 := z_gr (s_27 hS) rfl (p_27_1 hP)
  have e3 : ∀ i, i < 4 → q_gi (q_ga (z_h S I J P n) 20 33 (z_n i)) = some (I 103 i) := fun i hi => by rw [z_gia (s_33 hS) (by omega) (z_rpl hi), B.qC.2.2.2.1 i hi]
  have h := z_run (fun m i => f_Li_oddsOfSister_L6 27 (z_n t) (z_n a) (z_n w) m (z_z (u_N I t a w i * u_R I a w i : Nat)) (z_n i) (z_h S I J P n)) 4 (r := some (z_z (u_N I t a w 4 * u_R I a w 4 : Nat), z_h S I J P n)) (by omega)
    (by
      intro m i hi
      have hr := e3 i hi
      have t4 : (10000 : Int64) = z_z 10000 := rfl
      have step0 : ¬ u_as I a w i = true → u_N I t a w (i + 1) * u_R I a w (i + 1) = u_N I t a w i * u_R I a w i * 10000 := by
        intro h
        rw [u_N, u_R, if_neg h, if_neg h, Nat.mul_assoc]
      have step1 : u_as I a w i = true → u_N I t a w (i + 1) * u_R I a w (i + 1) = u_N I t a w i * u_R I a w i * u_fc I t a i := by
        intro h
        rw [u_N, u_R, if_pos h, if_pos h, Nat.mul_right_comm]
      by_cases hg : i < u_gn I
      · obtain ⟨q1, q2, q3⟩ := g3 i hg
        have ab : (if z_n 0 ≤ z_i (u_gy I i) then z_i (u_gy I i) else z_n 0 - z_i (u_gy I i)) = z_n (u_gy I i).natAbs := by
          rw [z_i_n 0, z_i_sub, z_i_n]
          have := z_i_le (x := ((0 : Nat) : Int)) (y := u_gy I i) (by omega) (by omega) (by omega) (by omega)
          by_cases h0 : 0 ≤ u_gy I i
          · rw [if_pos (by rw [this]; exact h0)]; congr 1; omega
          · rw [if_neg (by rw [this]; exact h0)]; congr 1; omega
        by_cases k1 : (u_gy I i).natAbs ≤ w
        · have es : z_n a + z_i (u_gy I i) = z_i (a + u_gy I i) := by rw [z_i_n, z_i_add]
          have lt0 := z_i_lt (x := a + u_gy I i) (y := ((0 : Nat) : Int)) (by omega) (by omega) (by omega) (by omega)
          rw [← z_i_n] at lt0
          by_cases k2 : 0 ≤ (a : Int) + u_gy I i
          · have has : u_as I a w i = true := decide_eq_true ⟨hg, k1, k2⟩
            have en : z_i (a + u_gy I i) = z_n ((a : Int) + u_gy I i).toNat := by rw [z_i_n]; congr 1; omega
            have nl : (z_i (a + u_gy I i) < z_n 0) = False := by rw [lt0]; exact eq_false (by omega)
            have ff := C_fifths B ht (a := ((a : Int) + u_gy I i).toNat) (by omega)
            rw [← en] at ff
            have fl := u_at_le B ht ((a : Int) + u_gy I i).toNat
            have e7 : z_z (u_N I t a w i * u_R I a w i : Nat) * z_z ((10000 - u_at I t ((a : Int) + u_gy I i).toNat : Nat)) = z_z (u_N I t a w (i + 1) * u_R I a w (i + 1) : Nat) := by
              rw [step1 has, z_z_mul]; rfl
            simp (disch := omega) only [f_Li_oddsOfSister_L6, e1, e2, hr, hg, q1, ab, k1, es, nl, ff, z_zpz, (C_lives hS hP).2, e7, or_true, true_or, or_false, false_or, z_b_T, z_b_F, Bool.false_eq_true, Classical.not_not, decide_eq_true_eq, z_sq, Option.bind_some, z_lits, z_n_add, z_n_mul, z_lt, z_le, z_eq, z_ne1, z_1ne, z_lt1, z_1lt, z_ltT, z_ltF, z_leT, z_leF, z_eqF, z_b_0, z_b_1, ↓reduceIte, eq_self, not_true_eq_false, not_false_eq_true, and_true, true_and, and_false, false_and, Nat.add_zero, Nat.zero_add]
          · have has : ¬ u_as I a w i = true := by unfold u_as; simp; omega
            have nl : (z_i (a + u_gy I i) < z_n 0) = True := by rw [lt0]; exact eq_true (by omega)
            have e7 : z_z (u_N I t a w i * u_R I a w i : Nat) * z_z 10000 = z_z (u_N I t a w (i + 1) * u_R I a w (i + 1) : Nat) := by
              rw [step0 has, z_z_mul]; rfl
            simp (disch := omega) only [f_Li_oddsOfSister_L6, e1, e2, hr, hg, q1, ab, k1, es, nl, t4, e7, or_true, true_or, or_false, false_or, z_b_T, z_b_F, Bool.false_eq_true, Classical.not_not, decide_eq_true_eq, z_sq, Option.bind_some, z_lits, z_n_add, z_n_mul, z_lt, z_le, z_eq, z_ne1, z_1ne, z_lt1, z_1lt, z_ltT, z_ltF, z_leT, z_leF, z_eqF, z_b_0, z_b_1, ↓reduceIte, eq_self, not_true_eq_false, not_false_eq_true, and_true, true_and, and_false, false_and, Nat.add_zero, Nat.zero_add]
        · have has : ¬ u_as I a w i = true := by unfold u_as; simp; omega
          have e7 : z_z (u_N I t a w i * u_R I a w i : Nat) * z_z 10000 = z_z (u_N I t a w (i + 1) * u_R I a w (i + 1) : Nat) := by
            rw [step0 has, z_z_mul]; rfl
          simp (disch := omega) only [f_Li_oddsOfSister_L6, e1, e2, hr, hg, q1, ab, k1, t4, e7, or_true, true_or, or_false, false_or, z_b_T, z_b_F, Bool.false_eq_true, Classical.not_not, decide_eq_true_eq, z_sq, Option.bind_some, z_lits, z_n_add, z_n_mul, z_lt, z_le, z_eq, z_ne1, z_1ne, z_lt1, z_1lt, z_ltT, z_ltF, z_leT, z_leF, z_eqF, z_b_0, z_b_1, ↓reduceIte, eq_self, not_true_eq_false, not_false_eq_true, and_true, true_and, and_false, false_and, Nat.add_zero, Nat.zero_add]
      · have has : ¬ u_as I a w i = true := by unfold u_as; simp; omega
        have e7 : z_z (u_N I t a w i * u_R I a w i : Nat) * z_z 10000 = z_z (u_N I t a w (i + 1) * u_R I a w (i + 1) : Nat) := by
          rw [step0 has, z_z_mul]; rfl
        simp (disch := omega) only [f_Li_oddsOfSister_L6, e2, hg, t4, e7, or_true, true_or, or_false, false_or, z_b_T, z_b_F, Bool.false_eq_true, Classical.not_not, decide_eq_true_eq, z_sq, Option.bind_some, z_lits, z_n_add, z_n_mul, z_lt, z_le, z_eq, z_ne1, z_1ne, z_lt1, z_1lt, z_ltT, z_ltF, z_leT, z_leF, z_eqF, z_b_0, z_b_1, ↓reduceIte, eq_self, not_true_eq_false, not_false_eq_true, and_true, true_and, and_false, false_and, Nat.add_zero, Nat.zero_add])
    (by
      intro m
      simp (disch := omega) only [f_Li_oddsOfSister_L6, or_true, true_or, or_false, false_or, z_b_T, z_b_F, Bool.false_eq_true, Classical.not_not, decide_eq_true_eq, z_sq, Option.bind_some, z_lits, z_n_add, z_n_mul, z_lt, z_le, z_eq, z_ne1, z_1ne, z_lt1, z_1lt, z_ltT, z_ltF, z_leT, z_leF, z_eqF, z_b_0, z_b_1, ↓reduceIte, eq_self, not_true_eq_false, not_false_eq_true, and_true, true_and, and_false, false_and, Nat.add_zero, Nat.zero_add])
  have hb := u_NRp I t a w (i := 4) (by omega)
  unfold f_Li_oddsOfSister
  have h' : f_Li_oddsOfSister_L6 27 (z_n t) (z_n a) (z_n w) q_FU (1 : Int64) (0 : Int32) (z_h S I J P n) = _ := h
  rw [h', z_sq]
  have t16 : (10000000000000000 : Int64) = z_z 10000000000000000 := rfl
  rw [t16, z_z_sub]
  congr 3
  omega

set_option maxRecDepth 100000 in
set_option maxHeartbeats 4000000 in
theorem M_couldOf (B : z_B S I J P K n.1) {S' : z_SH} {I1 : z_MI} {J1 : z_MJ} {P' : z_MP} {n' : Nat × Nat} (hS' : z_St S') (hP' : z_Pt P') (c : z_cg I J I1 J1) {t a w : Nat} (ht : t < 4) (ha : a ≤ 120) (hw : w ≤ 30) : f_Mo_couldOf 83 (z_n t) (z_n a) (z_n w) (z_h S' I1 J1 P' n') = some (z_z ((u_B I a w 4 - u_N I t a w 4 : Nat)), z_h S' I1 (z_uj J1 83 34 (z_z (u_B I a w 4 : Nat))) P' n') := by
  obtain ⟨g1, g2, g3⟩ := B.gp
  have eg : I1 83 32 = z_n (u_gn I) := c.2.2.1.symm.trans g1
  have w1 : ∀ I J P n v, q_sf (z_h S' I J P n) 12 83 34 (.long v) = some (z_h S' I (z_uj J 83 34 v) P n) := fun _ _ _ _ _ => z_sfl (s_83 hS') (by decide) rfl
  have uu : ∀ x y, z_uj (z_uj J1 83 34 x) 83 34 y = z_uj J1 83 34 y := by
    intro x y
    funext b j
    unfold z_uj
    split <;> rfl
  have h := z_run (fun m i => f_Mo_couldOf_L11 83 (z_n t) (z_n a) (z_n w) m (z_z (u_N I t a w i : Nat)) (z_n i) (z_h S' I1 (z_uj J1 83 34 (z_z (u_B I a w i : Nat))) P' n')) (u_gn I) (r := some (z_z (u_N I t a w (u_gn I) : Nat), z_h S' I1 (z_uj J1 83 34 (z_z (u_B I a w (u_gn I) : Nat))) P' n')) (by omega)
    (by
      intro m i hg
      obtain ⟨q1, q2, q3⟩ := g3 i hg
      have v1 := c.i 103 rfl i
      have wi := M_within (v := z_i (u_gy I i)) (a := -z_n w) (b := z_n w) (σ := z_h S' I1 (z_uj J1 83 34 (z_z (u_B I a w i : Nat))) P' n')
      have l1 := z_i_lt (x := u_gy I i) (y := -(w : Int)) (by omega) (by omega) (by omega) (by omega)
      have l2 := z_i_lt (x := (w : Int)) (y := u_gy I i) (by omega) (by omega) (by omega) (by omega)
      rw [← z_i_neg] at l1
      rw [← z_i_n] at l1 l2
      simp only [l1, l2] at wi
      by_cases k1 : (u_gy I i).natAbs ≤ w
      · have n1 : (u_gy I i < -(w : Int)) = False := eq_false (by omega)
        have n2 : ((w : Int) < u_gy I i) = False := eq_false (by omega)
        have es : z_n a + z_i (u_gy I i) = z_i (a + u_gy I i) := by rw [z_i_n, z_i_add]
        have lt0 := z_i_lt (x := a + u_gy I i) (y := ((0 : Nat) : Int)) (by omega) (by omega) (by omega) (by omega)
        rw [← z_i_n] at lt0
        by_cases k2 : 0 ≤ (a : Int) + u_gy I i
        · have has : u_as I a w i = true := decide_eq_true ⟨hg, k1, k2⟩
          have en : z_i (a + u_gy I i) = z_n ((a : Int) + u_gy I i).toNat := by rw [z_i_n]; congr 1; omega
          have nl : (z_i (a + u_gy I i) < z_n 0) = False := by rw [lt0]; exact eq_false (by omega)
          have ff := M_atAge B hS' hP' (c.trans (z_cg.uj (a := 83) (i := 34) (v := z_z (u_B I a w i : Nat)) rfl)) (n' := n') ht (a := ((a : Int) + u_gy I i).toNat) (by omega)
          rw [← en] at ff
          have fl := u_at_le B ht ((a : Int) + u_gy I i).toNat
          have t4 : (10000 : Int64) = z_z 10000 := rfl
          have e7 : z_z (u_N I t a w i : Nat) * (z_z 10000 - z_z (u_at I t ((a : Int) + u_gy I i).toNat : Nat)) = z_z (u_N I t a w (i + 1) : Nat) := by
            rw [z_z_sub, z_z_mul, u_N, if_pos has]
            congr 1
            rw [Int.natCast_mul]
            congr 1
            unfold u_fc; omega
          have e8 : z_z (u_B I a w i : Nat) * z_z 10000 = z_z (u_B I a w (i + 1) : Nat) := by
            rw [z_z_mul, u_B, if_pos has]; rfl
          simp (disch := omega) only [f_Mo_couldOf_L11, z_Mr hS' hP', eg, v1, q1, wi, n1, n2, es, nl, ff, z_cast, t4, z_uj_s, e7, e8, w1, uu, or_true, true_or, or_false, false_or, z_b_T, z_b_F, Bool.false_eq_true, Classical.not_not, decide_eq_true_eq, z_sq, Option.bind_some, z_lits, z_n_add, z_n_mul, z_lt, z_le, z_eq, z_ne1, z_1ne, z_lt1, z_1lt, z_ltT, z_ltF, z_leT, z_leF, z_eqF, z_b_0, z_b_1, ↓reduceIte, eq_self, not_true_eq_false, not_false_eq_true, and_true, true_and, and_false, false_and, Nat.add_zero, Nat.zero_add]
        · have has : ¬ u_as I a w i = true := by unfold u_as; simp; omega
          have nl : (z_i (a + u_gy I i) < z_n 0) = True := by rw [lt0]; exact eq_true (by omega)
          have e7 : u_N I t a w (i + 1) = u_N I t a w i := by rw [u_N, if_neg has]
          have e8 : u_B I a w (i + 1) = u_B I a w i := by rw [u_B, if_neg has]
          simp (disch := omega) only [f_Mo_couldOf_L11, z_Mr hS' hP', eg, v1, q1, wi, n1, n2, es, nl, e7, e8, or_true, true_or, or_false, false_or, z_b_T, z_b_F, Bool.false_eq_true, Classical.not_not, decide_eq_true_eq, z_sq, Option.bind_some, z_lits, z_n_add, z_n_mul, z_lt, z_le, z_eq, z_ne1, z_1ne, z_lt1, z_1lt, z_ltT, z_ltF, z_leT, z_leF, z_eqF, z_b_0, z_b_1, ↓reduceIte, eq_self, not_true_eq_false, not_false_eq_true, and_true, true_and, and_false, false_and, Nat.add_zero, Nat.zero_add]
      · have has : ¬ u_as I a w i = true := by unfold u_as; simp; omega
        have e7 : u_N I t a w (i + 1) = u_N I t a w i := by rw [u_N, if_neg has]
        have e8 : u_B I a w (i + 1) = u_B I a w i := by rw [u_B, if_neg has]
        have nb : ¬ (¬ u_gy I i < -(w : Int) ∧ ¬ (w : Int) < u_gy I i) := by omega
        simp (disch := omega) only [f_Mo_couldOf_L11, z_Mr hS' hP', eg, v1, q1, wi, nb, e7, e8, or_true, true_or, or_false, false_or, z_b_T, z_b_F, Bool.false_eq_true, Classical.not_not, decide_eq_true_eq, z_sq, Option.bind_some, z_lits, z_n_add, z_n_mul, z_lt, z_le, z_eq, z_ne1, z_1ne, z_lt1, z_1lt, z_ltT, z_ltF, z_leT, z_leF, z_eqF, z_b_0, z_b_1, ↓reduceIte, eq_self, not_true_eq_false, not_false_eq_true, and_true, true_and, and_false, false_and, Nat.add_zero, Nat.zero_add])
    (by
      intro m
      simp (disch := omega) only [f_Mo_couldOf_L11, z_Mr hS' hP', eg, or_true, true_or, or_false, false_or, z_b_T, z_b_F, Bool.false_eq_true, Classical.not_not, decide_eq_true_eq, z_sq, Option.bind_some, z_lits, z_n_add, z_n_mul, z_lt, z_le, z_eq, z_ne1, z_1ne, z_lt1, z_1lt, z_ltT, z_ltF, z_leT, z_leF, z_eqF, z_b_0, z_b_1, ↓reduceIte, eq_self, not_true_eq_false, not_false_eq_true, and_true, true_and, and_false, false_and, Nat.add_zero, Nat.zero_add])
  have s4 := u_stop I t a w (4 - u_gn I)
  rw [show u_gn I + (4 - u_gn I) = 4 by omega] at s4
  have hle := u_NB I t a w 4
  have h' : f_Mo_couldOf_L11 83 (z_n t) (z_n a) (z_n w) q_FU (1 : Int64) (0 : Int32) (z_h S' I1 (z_uj J1 83 34 (1 : Int64)) P' n') = _ := h
  have r34 : ∀ I J P n, q_gl' (q_gf (z_h S' I J P n) 12 83 34) = some (J 83 34) := fun _ _ _ _ => z_gl (s_83 hS') rfl
  unfold f_Mo_couldOf
  rw [w1, Option.bind_some, h', z_sq, r34, Option.bind_some, z_uj_s, z_z_sub, s4.1, s4.2]
  congr 3
  rw [← s4.1, ← s4.2]
  omega
end
