/-! MARKS: what is laid by. -/
def z_shf (S : z_SH) (P : z_MP) (b : Nat) : Prop := S b = some (2, [2, 2, 2, 2, 2, 2]) ∧ (∀ j, j < 6 → P b j = some (b + 1 + j)) ∧ S (b + 1) = some (22, List.replicate 24 0) ∧ S (b + 2) = some (20, List.replicate 24 0) ∧ S (b + 3) = some (20, List.replicate 24 0) ∧ S (b + 4) = some (20, List.replicate 24 0) ∧ S (b + 5) = some (25, List.replicate 24 2) ∧ S (b + 6) = some (20, List.replicate 6 0)
theorem z_j6 {j : Nat} (h : j < 6) : j = 0 ∨ j = 1 ∨ j = 2 ∨ j = 3 ∨ j = 4 ∨ j = 5 := by omega
theorem z_shf13 {S : z_SH} {P : z_MP} (hS : z_St S) (hP : z_Pt P) : z_shf S P 13 :=
  ⟨s_13 hS, fun j hj => by rcases z_j6 hj with rfl | rfl | rfl | rfl | rfl | rfl <;> first | exact p_13_0 hP | exact p_13_1 hP | exact p_13_2 hP | exact p_13_3 hP | exact p_13_4 hP | exact p_13_5 hP, s_14 hS, s_15 hS, s_16 hS, s_17 hS, s_18 hS, s_19 hS⟩
theorem z_shfm {S : z_SH} {P : z_MP} (hS : z_St S) (hP : z_Pt P) {m : Nat} (hm : m < 4) : z_shf S P (43 + 7 * m) := by
  have : m = 0 ∨ m = 1 ∨ m = 2 ∨ m = 3 := by omega
  rcases this with rfl | rfl | rfl | rfl
  · exact ⟨s_43 hS, fun j hj => by rcases z_j6 hj with rfl | rfl | rfl | rfl | rfl | rfl <;> first | exact p_43_0 hP | exact p_43_1 hP | exact p_43_2 hP | exact p_43_3 hP | exact p_43_4 hP | exact p_43_5 hP, s_44 hS, s_45 hS, s_46 hS, s_47 hS, s_48 hS, s_49 hS⟩
  · exact ⟨s_50 hS, fun j hj => by rcases z_j6 hj with rfl | rfl | rfl | rfl | rfl | rfl <;> first | exact p_50_0 hP | exact p_50_1 hP | exact p_50_2 hP | exact p_50_3 hP | exact p_50_4 hP | exact p_50_5 hP, s_51 hS, s_52 hS, s_53 hS, s_54 hS, s_55 hS, s_56 hS⟩
  · exact ⟨s_57 hS, fun j hj => by rcases z_j6 hj with rfl | rfl | rfl | rfl | rfl | rfl <;> first | exact p_57_0 hP | exact p_57_1 hP | exact p_57_2 hP | exact p_57_3 hP | exact p_57_4 hP | exact p_57_5 hP, s_58 hS, s_59 hS, s_60 hS, s_61 hS, s_62 hS, s_63 hS⟩
  · exact ⟨s_64 hS, fun j hj => by rcases z_j6 hj with rfl | rfl | rfl | rfl | rfl | rfl <;> first | exact p_64_0 hP | exact p_64_1 hP | exact p_64_2 hP | exact p_64_3 hP | exact p_64_4 hP | exact p_64_5 hP, s_65 hS, s_66 hS, s_67 hS, s_68 hS, s_69 hS, s_70 hS⟩
section
variable {S : z_SH} {I : z_MI} {J : z_MJ} {P : z_MP} {K : Nat → Bool} {n : Nat × Nat}
/-- rows of a shelf -/
theorem z_shf.r {b : Nat} (h : z_shf S P b) (h8 : 8 ≤ b) {Q : z_MP} (hQ : Q b = P b) :
    (∀ I J, q_gr (q_gf (z_h S I J Q n) 2 b 0) = some (b + 1)) ∧ (∀ I J, q_gr (q_gf (z_h S I J Q n) 2 b 1) = some (b + 2)) ∧ (∀ I J, q_gr (q_gf (z_h S I J Q n) 2 b 2) = some (b + 3)) ∧ (∀ I J, q_gr (q_gf (z_h S I J Q n) 2 b 3) = some (b + 4)) ∧ (∀ I J, q_gr (q_gf (z_h S I J Q n) 2 b 4) = some (b + 5)) ∧ (∀ I J, q_gr (q_gf (z_h S I J Q n) 2 b 5) = some (b + 6)) := by
  obtain ⟨h0, h1, -⟩ := h
  have g : ∀ j, j < 6 → Q b j = some (b + 1 + j) := fun j hj => by rw [hQ]; exact h1 j hj
  exact ⟨fun _ _ => z_gr h0 rfl (g 0 (by omega)), fun _ _ => z_gr h0 rfl (g 1 (by omega)), fun _ _ => z_gr h0 rfl (g 2 (by omega)), fun _ _ => z_gr h0 rfl (g 3 (by omega)), fun _ _ => z_gr h0 rfl (g 4 (by omega)), fun _ _ => z_gr h0 rfl (g 5 (by omega))⟩
theorem z_shf.a {b : Nat} (h : z_shf S P b) (h8 : 8 ≤ b) :
    (∀ I J Q i, i < 24 → q_gi (q_ga (z_h S I J Q n) 22 (b + 1) (z_n i)) = some (I (b + 1) i)) ∧ (∀ I J Q i, i < 24 → q_gi (q_ga (z_h S I J Q n) 20 (b + 2) (z_n i)) = some (I (b + 2) i)) ∧ (∀ I J Q i, i < 24 → q_gi (q_ga (z_h S I J Q n) 20 (b + 3) (z_n i)) = some (I (b + 3) i)) ∧ (∀ I J Q i, i < 24 → q_gi (q_ga (z_h S I J Q n) 20 (b + 4) (z_n i)) = some (I (b + 4) i)) ∧ (∀ I J Q i, i < 24 → q_go (q_ga (z_h S I J Q n) 25 (b + 5) (z_n i)) = some (Q (b + 5) i)) ∧ (∀ I J Q i, i < 6 → q_gi (q_ga (z_h S I J Q n) 20 (b + 6) (z_n i)) = some (I (b + 6) i)) ∧
    (∀ I J Q i v, i < 24 → q_sa (z_h S I J Q n) 22 (b + 1) (z_n i) (.int v) = some (z_h S (z_up I (b + 1) i v) J Q n)) ∧ (∀ I J Q i v, i < 24 → q_sa (z_h S I J Q n) 20 (b + 2) (z_n i) (.int v) = some (z_h S (z_up I (b + 2) i v) J Q n)) ∧ (∀ I J Q i v, i < 24 → q_sa (z_h S I J Q n) 20 (b + 3) (z_n i) (.int v) = some (z_h S (z_up I (b + 3) i v) J Q n)) ∧ (∀ I J Q i v, i < 24 → q_sa (z_h S I J Q n) 20 (b + 4) (z_n i) (.int v) = some (z_h S (z_up I (b + 4) i v) J Q n)) ∧ (∀ I J Q i v, i < 24 → q_sa (z_h S I J Q n) 25 (b + 5) (z_n i) (q_rf v) = some (z_h S I J (z_pu Q (b + 5) i v) n)) ∧ (∀ I J Q i v, i < 6 → q_sa (z_h S I J Q n) 20 (b + 6) (z_n i) (.int v) = some (z_h S (z_up I (b + 6) i v) J Q n)) := by
  obtain ⟨-, -, h2, h3, h4, h5, h6, h7⟩ := h
  exact ⟨fun _ _ _ _ hi => z_gia h2 (by omega) (z_rpl hi), fun _ _ _ _ hi => z_gia h3 (by omega) (z_rpl hi), fun _ _ _ _ hi => z_gia h4 (by omega) (z_rpl hi), fun _ _ _ _ hi => z_gia h5 (by omega) (z_rpl hi), fun _ _ _ _ hi => z_goa h6 (by omega) (z_rpl hi), fun _ _ _ _ hi => z_gia h7 (by omega) (z_rpl hi),
    fun _ _ _ _ _ hi => z_sai h2 (by omega) (by omega) (z_rpl hi), fun _ _ _ _ _ hi => z_sai h3 (by omega) (by omega) (z_rpl hi), fun _ _ _ _ _ hi => z_sai h4 (by omega) (by omega) (z_rpl hi), fun _ _ _ _ _ hi => z_sai h5 (by omega) (by omega) (z_rpl hi), fun _ _ _ _ _ hi => z_sap h6 (by omega) (by omega) (z_rpl hi), fun _ _ _ _ _ hi => z_sai h7 (by omega) (by omega) (z_rpl hi)⟩
set_option maxRecDepth 100000 in
set_option maxHeartbeats 4000000 in
theorem C_copy2 {b c : Nat} (hb : z_shf S P b) (hc : z_shf S P c) (h8 : 8 ≤ b ∧ 8 ≤ c) (ne : b + 6 < c ∨ c + 6 < b) (ht : ∀ j, j < 24 → I (c + 1) j = z_n 0 ∨ I (c + 1) j = z_n 1) (hp : ∀ j, j < 24 → P (c + 5) j = none ∨ ∃ p ks, P (c + 5) j = some p ∧ S p = some (8, ks)) : ∃ Y Q, f_Sf_copyFrom_L2 b c q_FU (z_n 0) (z_h S I J P n) = some ((), z_h S Y J Q n) ∧ (∀ a, ¬ (b < a ∧ a ≤ b + 4) → Y a = I a) ∧ (∀ k, 1 ≤ k → k ≤ 4 → ∀ j, Y (b + k) j = if j < 24 then I (c + k) j else I (b + k) j) ∧ (∀ a, a ≠ b + 5 → Q a = P a) ∧ ∀ j, Q (b + 5) j = if j < 24 then P (c + 5) j else P (b + 5) j := by
  obtain ⟨x1, x2, x3, x4, x5, x6, w1, w2, w3, w4, w5, w6⟩ := hb.a (n := n) h8.1
  obtain ⟨y1, y2, y3, y4, y5, y6, -⟩ := hc.a (n := n) h8.2
  exact z_runI (fun m i (X : z_MI × z_MP) => f_Sf_copyFrom_L2 b c m (z_n i) (z_h S X.1 J X.2 n)) 24
    (fun i X => (∀ a, ¬ (b < a ∧ a ≤ b + 4) → X.1 a = I a) ∧ (∀ k, 1 ≤ k → k ≤ 4 → ∀ j, X.1 (b + k) j = if j < i then I (c + k) j else I (b + k) j) ∧ (∀ a, a ≠ b + 5 → X.2 a = P a) ∧ ∀ j, X.2 (b + 5) j = if j < i then P (c + 5) j else P (b + 5) j)
    (fun r => ∃ Y Q, r = some ((), z_h S Y J Q n) ∧ (∀ a, ¬ (b < a ∧ a ≤ b + 4) → Y a = I a) ∧ (∀ k, 1 ≤ k → k ≤ 4 → ∀ j, Y (b + k) j = if j < 24 then I (c + k) j else I (b + k) j) ∧ (∀ a, a ≠ b + 5 → Q a = P a) ∧ ∀ j, Q (b + 5) j = if j < 24 then P (c + 5) j else P (b + 5) j) (by omega)
    (by
      intro m i ⟨Y, Q⟩ hi ⟨q1, q2, q3, q4⟩
      simp only at q1 q2 q3 q4 ⊢
      obtain ⟨r1, r2, r3, r4, r5, r6⟩ := hb.r (n := n) h8.1 (q3 b (by omega))
      obtain ⟨s1, s2, s3, s4, s5, s6⟩ := hc.r (n := n) h8.2 (q3 c (by omega))
      have e1 : Y (c + 1) i = I (c + 1) i := by rw [q1 _ (by omega)]
      have e2 : Y (c + 2) i = I (c + 2) i := by rw [q1 _ (by omega)]
      have e3 : Y (c + 3) i = I (c + 3) i := by rw [q1 _ (by omega)]
      have e4 : Y (c + 4) i = I (c + 4) i := by rw [q1 _ (by omega)]
      have e5 : Q (c + 5) i = P (c + 5) i := by rw [q3 _ (by omega)]
      have n1 : ∀ v, z_up Y (b + 1) i v (c + 2) i = I (c + 2) i := fun v => by rw [z_ups (by omega)]; exact e2
      have n2 : ∀ v v2, z_up (z_up Y (b + 1) i v) (b + 2) i v2 (c + 3) i = I (c + 3) i := fun v v2 => by rw [z_ups (by omega), z_ups (by omega)]; exact e3
      have n3 : ∀ v v2 v3, z_up (z_up (z_up Y (b + 1) i v) (b + 2) i v2) (b + 3) i v3 (c + 4) i = I (c + 4) i := fun v v2 v3 => by rw [z_ups (by omega), z_ups (by omega), z_ups (by omega)]; exact e4
      have ok : (I (c + 1) i = z_n 0 ∨ I (c + 1) i = z_n 1) = True := eq_true (ht i hi)
      have ob : ∀ X, q_obo (z_h S X J Q n) 8 (P (c + 5) i) = some () := by
        intro X
        rcases hp i hi with h | ⟨p, ks, h1, h2⟩
        · rw [h]; rfl
        · rw [h1]
          show Option.map _ (q_ob _ 8 p) = _
          rw [z_ob h2]; rfl
      refine ⟨(z_up (z_up (z_up (z_up Y (b + 1) i (I (c + 1) i)) (b + 2) i (I (c + 2) i)) (b + 3) i (I (c + 3) i)) (b + 4) i (I (c + 4) i), z_pu Q (b + 5) i (P (c + 5) i)), ⟨fun a ha => ?_, fun k k1 k2 j => ?_, fun a ha => ?_, fun j => ?_⟩, ?_⟩
      · show z_up _ _ _ _ a = _
        rw [z_ups (by omega), z_ups (by omega), z_ups (by omega), z_ups (by omega)]; exact q1 a ha
      · show z_up _ _ _ _ (b + k) j = _
        have key : ∀ k', 1 ≤ k' → k' ≤ 4 → ∀ j, (if j = i then I (c + k') i else Y (b + k') j) = if j < i + 1 then I (c + k') j else I (b + k') j := by
          intro k' h1 h2 j
          by_cases q : j = i
          · rw [if_pos q, if_pos (by omega), q]
          · rw [if_neg q, q2 k' h1 h2]
            by_cases q2 : j < i
            · rw [if_pos q2, if_pos (by omega)]
            · rw [if_neg q2, if_neg (by omega)]
        have : k = 1 ∨ k = 2 ∨ k = 3 ∨ k = 4 := by omega
        rcases this with rfl | rfl | rfl | rfl
        · rw [z_ups (by omega), z_ups (by omega), z_ups (by omega), z_up_e]; exact key 1 (by omega) (by omega) j
        · rw [z_ups (by omega), z_ups (by omega), z_up_e, z_ups (by omega)]; exact key 2 (by omega) (by omega) j
        · rw [z_ups (by omega), z_up_e, z_ups (by omega), z_ups (by omega)]; exact key 3 (by omega) (by omega) j
        · rw [z_up_e, z_ups (by omega), z_ups (by omega), z_ups (by omega)]; exact key 4 (by omega) (by omega) j
      · show z_pu _ _ _ _ a = _
        rw [z_pu_r ha]; exact q3 a ha
      · show z_pu _ _ _ _ (b + 5) j = _
        unfold z_pu
        by_cases q : j = i
        · rw [if_pos ⟨rfl, q⟩, if_pos (by omega), q]
        · rw [if_neg (fun h => q h.2), q4]
          by_cases q2 : j < i
          · rw [if_pos q2, if_pos (by omega)]
          · rw [if_neg q2, if_neg (by omega)]
      · simp (disch := omega) only [f_Sf_copyFrom_L2, hi, r1, r2, r3, r4, r5, s1, s2, s3, s4, s5, y1, y2, y3, y4, y5, w1, w2, w3, w4, w5, e1, n1, n2, n3, e5, ok, ob, or_true, true_or, or_false, false_or, z_b_T, z_b_F, Bool.false_eq_true, Classical.not_not, decide_eq_true_eq, z_sq, Option.bind_some, z_lits, z_n_add, z_n_mul, z_lt, z_le, z_eq, z_ne1, z_1ne, z_lt1, z_1lt, z_ltT, z_ltF, z_leT, z_leF, z_eqF, z_b_0, z_b_1, ↓reduceIte, eq_self, not_true_eq_false, not_false_eq_true, and_true, true_and, and_false, false_and, Nat.add_zero, Nat.zero_add])
    (by
      intro m ⟨Y, Q⟩ ⟨q1, q2, q3, q4⟩
      simp only at q1 q2 q3 q4 ⊢
      refine ⟨Y, Q, ?_, q1, q2, q3, q4⟩
      simp (disch := omega) only [f_Sf_copyFrom_L2, Nat.lt_irrefl, or_true, true_or, or_false, false_or, z_b_T, z_b_F, Bool.false_eq_true, Classical.not_not, decide_eq_true_eq, z_sq, Option.bind_some, z_lits, z_n_add, z_n_mul, z_lt, z_le, z_eq, z_ne1, z_1ne, z_lt1, z_1lt, z_ltT, z_ltF, z_leT, z_leF, z_eqF, z_b_0, z_b_1, ↓reduceIte, eq_self, not_true_eq_false, not_false_eq_true, and_true, true_and, and_false, false_and, Nat.add_zero, Nat.zero_add])
    (x := (I, P)) ⟨fun _ _ => rfl, fun k _ _ j => by rw [if_neg (Nat.not_lt_zero _)], fun _ _ => rfl, fun j => by rw [if_neg (Nat.not_lt_zero _)]⟩
set_option maxRecDepth 100000 in
set_option maxHeartbeats 4000000 in
theorem C_copy {b c : Nat} (hb : z_shf S P b) (hc : z_shf S P c) (h8 : 8 ≤ b ∧ 8 ≤ c) (ne : b + 6 < c ∨ c + 6 < b) (ht : ∀ j, j < 24 → I (c + 1) j = z_n 0 ∨ I (c + 1) j = z_n 1) (hp : ∀ j, j < 24 → P (c + 5) j = none ∨ ∃ p ks, P (c + 5) j = some p ∧ S p = some (8, ks)) : ∃ Y Q, f_Sf_copyFrom b c (z_h S I J P n) = some ((), z_h S Y J Q n) ∧ (∀ a, ¬ (b < a ∧ a ≤ b + 6) → Y a = I a) ∧ (∀ k, 1 ≤ k → k ≤ 4 → ∀ j, j < 24 → Y (b + k) j = I (c + k) j) ∧ (∀ j, j < 6 → Y (b + 6) j = I (c + 6) j) ∧ (∀ a, a ≠ b + 5 → Q a = P a) ∧ ∀ j, j < 24 → Q (b + 5) j = P (c + 5) j := by
  obtain ⟨A, Q, a1, a2, a3, a4, a5⟩ := C_copy2 (J := J) (n := n) hb hc h8 ne ht hp
  obtain ⟨x1, x2, x3, x4, x5, x6, w1, w2, w3, w4, w5, w6⟩ := hb.a (n := n) h8.1
  obtain ⟨y1, y2, y3, y4, y5, y6, -⟩ := hc.a (n := n) h8.2
  obtain ⟨r1, r2, r3, r4, r5, r6⟩ := hb.r (n := n) h8.1 (a4 b (by omega))
  obtain ⟨s1, s2, s3, s4, s5, s6⟩ := hc.r (n := n) h8.2 (a4 c (by omega))
  obtain ⟨Y, b1, b2, b3⟩ : ∃ Y, f_Sf_copyFrom_L76 b c q_FU (z_n 0) (z_h S A J Q n) = some ((), z_h S Y J Q n) ∧ (∀ a, a ≠ b + 6 → Y a = A a) ∧ ∀ j, j < 6 → Y (b + 6) j = I (c + 6) j :=
    z_runI (fun m i (Y : z_MI) => f_Sf_copyFrom_L76 b c m (z_n i) (z_h S Y J Q n)) 6
    (fun i Y => (∀ a, a ≠ b + 6 → Y a = A a) ∧ ∀ j, j < i → Y (b + 6) j = I (c + 6) j)
    (fun r => ∃ Y, r = some ((), z_h S Y J Q n) ∧ (∀ a, a ≠ b + 6 → Y a = A a) ∧ ∀ j, j < 6 → Y (b + 6) j = I (c + 6) j) (by omega)
    (by
      intro m i Y hi ⟨q1, q2⟩
      have e : Y (c + 6) i = I (c + 6) i := by rw [q1 _ (by omega), a2 _ (by omega)]
      refine ⟨z_up Y (b + 6) i (I (c + 6) i), ⟨fun a ha => by rw [z_ups ha]; exact q1 a ha, fun j hj => ?_⟩, ?_⟩
      · rw [z_up_e]
        by_cases q : j = i
        · rw [if_pos q, q]
        · rw [if_neg q]; exact q2 j (by omega)
      · simp (disch := omega) only [f_Sf_copyFrom_L76, hi, r6, s6, y6, w6, e, or_true, true_or, or_false, false_or, z_b_T, z_b_F, Bool.false_eq_true, Classical.not_not, decide_eq_true_eq, z_sq, Option.bind_some, z_lits, z_n_add, z_n_mul, z_lt, z_le, z_eq, z_ne1, z_1ne, z_lt1, z_1lt, z_ltT, z_ltF, z_leT, z_leF, z_eqF, z_b_0, z_b_1, ↓reduceIte, eq_self, not_true_eq_false, not_false_eq_true, and_true, true_and, and_false, false_and, Nat.add_zero, Nat.zero_add])
    (by
      intro m Y ⟨q1, q2⟩
      refine ⟨Y, ?_, q1, q2⟩
      simp (disch := omega) only [f_Sf_copyFrom_L76, Nat.lt_irrefl, or_true, true_or, or_false, false_or, z_b_T, z_b_F, Bool.false_eq_true, Classical.not_not, decide_eq_true_eq, z_sq, Option.bind_some, z_lits, z_n_add, z_n_mul, z_lt, z_le, z_eq, z_ne1, z_1ne, z_lt1, z_1lt, z_ltT, z_ltF, z_leT, z_leF, z_eqF, z_b_0, z_b_1, ↓reduceIte, eq_self, not_true_eq_false, not_false_eq_true, and_true, true_and, and_false, false_and, Nat.add_zero, Nat.zero_add])
    (x := A) ⟨fun _ _ => rfl, fun j hj => absurd hj (Nat.not_lt_zero _)⟩
  refine ⟨Y, Q, ?_, fun a ha => ?_, fun k k1 k2 j hj => ?_, b3, a4, fun j hj => by rw [a5, if_pos hj]⟩
  · simp (disch := omega) only [f_Sf_copyFrom, a1, b1, or_true, true_or, or_false, false_or, z_b_T, z_b_F, Bool.false_eq_true, Classical.not_not, decide_eq_true_eq, z_sq, Option.bind_some, z_lits, z_n_add, z_n_mul, z_lt, z_le, z_eq, z_ne1, z_1ne, z_lt1, z_1lt, z_ltT, z_ltF, z_leT, z_leF, z_eqF, z_b_0, z_b_1, ↓reduceIte, eq_self, not_true_eq_false, not_false_eq_true, and_true, true_and, and_false, false_and, Nat.add_zero, Nat.zero_add]
  · rw [b2 a (by omega), a2 a (by omega)]
  · rw [b2 _ (by omega), a3 k k1 k2, if_pos hj]
end
