/-! Tokens: the reference goes on. -/
def k_M (T : k_T) (p : Nat) (I : z_MI) (J : z_MJ) : Prop := I 83 19 = z_n (k_e T p) ∧ I 83 20 = z_n (k_b T p) ∧ I 83 21 = z_n (k_k T p) ∧ (k_k T p = 1 → J 83 22 = k_vl T p) ∧ (k_k T p = 2 → ∃ v, v ≤ 9999 ∧ k_vl T p = z_z (v : Nat) ∧ I 83 23 = z_n v)
theorem k_dv_le (T : k_T) (b : Nat) : ∀ i, (∀ j, j < i → T.2 (b + j) ≤ 57) → k_dv T b i < 10 ^ i
  | 0, _ => by
    show (0 : Nat) < 10 ^ 0
    decide
  | i + 1, h => by
    have h1 := k_dv_le T b i (fun j hj => h j (by omega))
    have h2 := h i (by omega)
    rw [k_dv, Nat.pow_succ]
    omega
section
variable {S : z_SH} {I : z_MI} {J : z_MJ} {P : z_MP} {K : Nat → Bool} {n : Nat × Nat} {T : k_T}
set_option maxRecDepth 100000 in
set_option maxHeartbeats 4000000 in
theorem M_skip (hS : z_St S) (hP : z_Pt P) (ht : k_hd (I 83 18) (I 99) T) {p : Nat} (hp : p ≤ T.1) (h2 : I 83 19 = z_n p) : f_Mo_nextToken_L0 83 q_FU (z_h S I J P n) = some ((), z_h S (z_up I 83 19 (z_n (k_b T p))) J P n) := by
  have le := k_rn_le T k_bl p
  have t1 := ht.1
  have t2 := ht.2.1
  have e1 : ∀ v, z_up I 83 19 v 83 18 = z_n T.1 := fun v => by rw [z_up_e, if_neg (by decide)]; exact t2
  have e2 : ∀ v, z_up I 83 19 v 83 19 = v := fun v => z_up_s _ _ _ _
  have e3 : ∀ v, z_up I 83 19 v 99 = I 99 := fun v => z_ups (by decide)
  have h := z_run (fun m i => f_Mo_nextToken_L0 83 m (z_h S (z_up I 83 19 (z_n (p + i))) J P n)) (k_rn T k_bl p) (r := some ((), z_h S (z_up I 83 19 (z_n (k_b T p))) J P n)) (by omega)
    (by
      intro m i hi
      have g := k_rn_in hi
      unfold k_bl at g
      rw [decide_eq_true_eq] at g
      obtain ⟨r1, r2⟩ := ht.r (i := p + i) (by omega)
      have lt : p + i < T.1 := by omega
      rcases g with g | g
      · rw [g] at r1
        simp (disch := omega) only [f_Mo_nextToken_L0, z_Mr hS hP, z_Mw hS, e1, e2, e3, r1, lt, z_up_up, or_true, true_or, or_false, false_or, z_b_T, z_b_F, Bool.false_eq_true, Classical.not_not, decide_eq_true_eq, z_sq, Option.bind_some, z_lits, z_n_add, z_n_mul, z_lt, z_le, z_eq, z_ne1, z_1ne, z_lt1, z_1lt, z_ltT, z_ltF, z_leT, z_leF, z_eqF, z_b_0, z_b_1, ↓reduceIte, eq_self, not_true_eq_false, not_false_eq_true, and_true, true_and, and_false, false_and, Nat.add_zero, Nat.zero_add, Nat.add_assoc]
      · rw [g] at r1
        simp (disch := omega) only [f_Mo_nextToken_L0, z_Mr hS hP, z_Mw hS, e1, e2, e3, r1, lt, z_up_up, or_true, true_or, or_false, false_or, z_b_T, z_b_F, Bool.false_eq_true, Classical.not_not, decide_eq_true_eq, z_sq, Option.bind_some, z_lits, z_n_add, z_n_mul, z_lt, z_le, z_eq, z_ne1, z_1ne, z_lt1, z_1lt, z_ltT, z_ltF, z_leT, z_leF, z_eqF, z_b_0, z_b_1, ↓reduceIte, eq_self, not_true_eq_false, not_false_eq_true, and_true, true_and, and_false, false_and, Nat.add_zero, Nat.zero_add, Nat.add_assoc])
    (by
      intro m
      have eb : p + k_rn T k_bl p = k_b T p := rfl
      rw [eb]
      by_cases q : k_b T p < T.1
      · have g := k_b_at q
        unfold k_bl at g
        rw [decide_eq_false_iff_not] at g
        obtain ⟨r1, r2⟩ := ht.r q
        have g1 : ¬ T.2 (k_b T p) = 10 := fun e => g (Or.inl e)
        have g2 : ¬ T.2 (k_b T p) = 32 := fun e => g (Or.inr e)
        simp (disch := omega) only [f_Mo_nextToken_L0, z_Mr hS hP, e1, e2, e3, r1, q, g1, g2, or_true, true_or, or_false, false_or, z_b_T, z_b_F, Bool.false_eq_true, Classical.not_not, decide_eq_true_eq, z_sq, Option.bind_some, z_lits, z_n_add, z_n_mul, z_lt, z_le, z_eq, z_ne1, z_1ne, z_lt1, z_1lt, z_ltT, z_ltF, z_leT, z_leF, z_eqF, z_b_0, z_b_1, ↓reduceIte, eq_self, not_true_eq_false, not_false_eq_true, and_true, true_and, and_false, false_and, Nat.add_zero, Nat.zero_add]
      · have hb := (k_b_le hp).2
        simp (disch := omega) only [f_Mo_nextToken_L0, z_Mr hS hP, e1, e2, e3, q, or_true, true_or, or_false, false_or, z_b_T, z_b_F, Bool.false_eq_true, Classical.not_not, decide_eq_true_eq, z_sq, Option.bind_some, z_lits, z_n_add, z_n_mul, z_lt, z_le, z_eq, z_ne1, z_1ne, z_lt1, z_1lt, z_ltT, z_ltF, z_leT, z_leF, z_eqF, z_b_0, z_b_1, ↓reduceIte, eq_self, not_true_eq_false, not_false_eq_true, and_true, true_and, and_false, false_and, Nat.add_zero, Nat.zero_add])
  simp only [Nat.add_zero] at h
  rw [z_up_id h2] at h
  exact h
set_option maxRecDepth 100000 in
set_option maxHeartbeats 4000000 in
theorem M_sign (hS : z_St S) (hP : z_Pt P) (ht : k_hd (I 83 18) (I 99) T) {x : Nat} (hx : x ≤ T.1) : f_Mo_signAt 83 (z_n x) (z_h S I J P n) = some ((if x < T.1 then z_n (T.2 x) else z_n 0), z_h S I J P n) := by
  have t1 := ht.1
  have t2 := ht.2.1
  by_cases q : x < T.1
  · obtain ⟨r1, r2⟩ := ht.r q
    rw [if_pos q]
    simp (disch := omega) only [f_Mo_signAt, z_Mr hS hP, t2, q, r1, or_true, true_or, or_false, false_or, z_b_T, z_b_F, Bool.false_eq_true, Classical.not_not, decide_eq_true_eq, z_sq, Option.bind_some, z_lits, z_n_add, z_n_mul, z_lt, z_le, z_eq, z_ne1, z_1ne, z_lt1, z_1lt, z_ltT, z_ltF, z_leT, z_leF, z_eqF, z_b_0, z_b_1, ↓reduceIte, eq_self, not_true_eq_false, not_false_eq_true, and_true, true_and, and_false, false_and, Nat.add_zero, Nat.zero_add]
  · rw [if_neg q]
    simp (disch := omega) only [f_Mo_signAt, z_Mr hS hP, t2, q, or_true, true_or, or_false, false_or, z_b_T, z_b_F, Bool.false_eq_true, Classical.not_not, decide_eq_true_eq, z_sq, Option.bind_some, z_lits, z_n_add, z_n_mul, z_lt, z_le, z_eq, z_ne1, z_1ne, z_lt1, z_1lt, z_ltT, z_ltF, z_leT, z_leF, z_eqF, z_b_0, z_b_1, ↓reduceIte, eq_self, not_true_eq_false, not_false_eq_true, and_true, true_and, and_false, false_and, Nat.add_zero, Nat.zero_add]
theorem k_cg3 {X : z_MI} (ht : k_hd (I 83 18) (I 99) T) (e1 : X 83 18 = I 83 18) (e2 : X 99 = I 99) : k_hd (X 83 18) (X 99) T := by rw [e1, e2]; exact ht
set_option maxRecDepth 100000 in
set_option maxHeartbeats 4000000 in
theorem M_word (hS : z_St S) (hP : z_Pt P) (ht : k_hd (I 83 18) (I 99) T) {b : Nat} (hb : b ≤ T.1) (h2 : I 83 19 = z_n b) (h4 : I 83 20 = z_n b) (h5 : J 83 22 = 0) : f_Mo_nextToken_L109 83 q_FU (z_h S I J P n) = some ((), z_h S (z_up I 83 19 (z_n (b + k_rn T k_lt b))) (z_uj J 83 22 (k_wd T b (min (k_rn T k_lt b) 8))) P n) := by
  have le := k_rn_le T k_lt b
  have t1 := ht.1
  have e2 : ∀ v, z_up I 83 19 v 83 19 = v := fun v => z_up_s _ _ _ _
  have e4 : ∀ v, z_up I 83 19 v 83 20 = z_n b := fun v => by rw [z_up_e, if_neg (by decide)]; exact h4
  have e5 : ∀ v, z_uj J 83 22 v 83 22 = v := fun v => z_uj_s _ _ _ _
  have om := fun I J => z_ob (I := I) (J := J) (P := P) (n := n) (s_83 hS)
  have sg := fun (v : Int32) (Z : z_MJ) (x : Nat) (hx : x ≤ T.1) => M_sign (I := z_up I 83 19 v) (J := Z) (n := n) hS hP (k_cg3 ht (by rw [z_up_e, if_neg (by decide)]) (z_ups (by decide))) hx
  have h := z_run (fun m i => f_Mo_nextToken_L109 83 m (z_h S (z_up I 83 19 (z_n (b + i))) (z_uj J 83 22 (k_wd T b (min i 8))) P n)) (k_rn T k_lt b) (r := some ((), z_h S (z_up I 83 19 (z_n (b + k_rn T k_lt b))) (z_uj J 83 22 (k_wd T b (min (k_rn T k_lt b) 8))) P n)) (by omega)
    (by
      intro m i hi
      have g := k_rn_in hi
      unfold k_lt at g
      rw [decide_eq_true_eq] at g
      have lt : b + i < T.1 := by omega
      have s1 := fun Z => sg (z_n (b + i)) Z (b + i) (by omega)
      simp only [if_pos lt] at s1
      have es : z_n (b + i) - z_n b = z_n i := by rw [z_n_sub (by omega), Nat.add_sub_cancel_left]
      by_cases q8 : i < 8
      · rw [Nat.min_eq_left (show i ≤ 8 by omega), Nat.min_eq_left (show i + 1 ≤ 8 by omega)]
        have ew : k_wd T b i * 27 + (z_n (T.2 (b + i))).toInt64 - 96 = k_wd T b (i + 1) := by
          rw [k_wd, z_z32 (show T.2 (b + i) < 2147483648 by omega), z_z32 (show T.2 (b + i) - 96 < 2147483648 by omega), Int64.sub_eq_add_neg, Int64.add_assoc, show -(96 : Int64) = z_z (-96) from rfl, z_z_add]
          congr 2
          omega
        generalize k_wd T b (i + 1) = w' at *
        generalize k_wd T b i = w at *
        simp (disch := omega) only [f_Mo_nextToken_L109, z_Mr hS hP, z_Mw hS, om, e2, e4, e5, s1, es, q8, z_up_up, z_uj_uj, or_true, true_or, or_false, false_or, z_b_T, z_b_F, Bool.false_eq_true, Classical.not_not, decide_eq_true_eq, z_sq, Option.bind_some, z_lits, z_n_add, z_n_mul, z_lt, z_le, z_eq, z_ne1, z_1ne, z_lt1, z_1lt, z_ltT, z_ltF, z_leT, z_leF, z_eqF, z_b_0, z_b_1, ↓reduceIte, eq_self, not_true_eq_false, not_false_eq_true, and_true, true_and, and_false, false_and, Nat.add_zero, Nat.zero_add, Nat.add_assoc]
        rw [ew]
      · rw [Nat.min_eq_right (show 8 ≤ i by omega), Nat.min_eq_right (show 8 ≤ i + 1 by omega)]
        simp (disch := omega) only [f_Mo_nextToken_L109, z_Mr hS hP, z_Mw hS, om, e2, e4, s1, es, q8, z_up_up, or_true, true_or, or_false, false_or, z_b_T, z_b_F, Bool.false_eq_true, Classical.not_not, decide_eq_true_eq, z_sq, Option.bind_some, z_lits, z_n_add, z_n_mul, z_lt, z_le, z_eq, z_ne1, z_1ne, z_lt1, z_1lt, z_ltT, z_ltF, z_leT, z_leF, z_eqF, z_b_0, z_b_1, ↓reduceIte, eq_self, not_true_eq_false, not_false_eq_true, and_true, true_and, and_false, false_and, Nat.add_zero, Nat.zero_add, Nat.add_assoc])
    (by
      intro m
      generalize k_wd T b (min (k_rn T k_lt b) 8) = w
      by_cases q : b + k_rn T k_lt b < T.1
      · have g := k_rn_at q
        obtain ⟨r1, r2⟩ := ht.r q
        generalize b + k_rn T k_lt b = x at *
        unfold k_lt at g
        rw [decide_eq_false_iff_not] at g
        have s1 := fun Z => sg (z_n x) Z x (by omega)
        simp only [if_pos q] at s1
        by_cases g1 : T.2 x < 97
        · simp (disch := omega) only [f_Mo_nextToken_L109, z_Mr hS hP, om, e2, s1, g1, or_true, true_or, or_false, false_or, z_b_T, z_b_F, Bool.false_eq_true, Classical.not_not, decide_eq_true_eq, z_sq, Option.bind_some, z_lits, z_n_add, z_n_mul, z_lt, z_le, z_eq, z_ne1, z_1ne, z_lt1, z_1lt, z_ltT, z_ltF, z_leT, z_leF, z_eqF, z_b_0, z_b_1, ↓reduceIte, eq_self, not_true_eq_false, not_false_eq_true, and_true, true_and, and_false, false_and, Nat.add_zero, Nat.zero_add]
        · have g2 : 122 < T.2 x := by omega
          simp (disch := omega) only [f_Mo_nextToken_L109, z_Mr hS hP, om, e2, s1, g1, g2, or_true, true_or, or_false, false_or, z_b_T, z_b_F, Bool.false_eq_true, Classical.not_not, decide_eq_true_eq, z_sq, Option.bind_some, z_lits, z_n_add, z_n_mul, z_lt, z_le, z_eq, z_ne1, z_1ne, z_lt1, z_1lt, z_ltT, z_ltF, z_leT, z_leF, z_eqF, z_b_0, z_b_1, ↓reduceIte, eq_self, not_true_eq_false, not_false_eq_true, and_true, true_and, and_false, false_and, Nat.add_zero, Nat.zero_add]
      · have q' : b + k_rn T k_lt b = T.1 := by omega
        rw [q']
        have s1 := fun Z => sg (z_n T.1) Z T.1 (by omega)
        simp only [Nat.lt_irrefl, if_false] at s1
        simp (disch := omega) only [f_Mo_nextToken_L109, z_Mr hS hP, om, e2, s1, or_true, true_or, or_false, false_or, z_b_T, z_b_F, Bool.false_eq_true, Classical.not_not, decide_eq_true_eq, z_sq, Option.bind_some, z_lits, z_n_add, z_n_mul, z_lt, z_le, z_eq, z_ne1, z_1ne, z_lt1, z_1lt, z_ltT, z_ltF, z_leT, z_leF, z_eqF, z_b_0, z_b_1, ↓reduceIte, eq_self, not_true_eq_false, not_false_eq_true, and_true, true_and, and_false, false_and, Nat.add_zero, Nat.zero_add])
  simp only [Nat.add_zero] at h
  rw [z_up_id h2] at h
  have hj : z_uj J 83 22 (k_wd T b (min 0 8)) = J := z_uj_id h5
  rw [hj] at h
  exact h
set_option maxRecDepth 100000 in
set_option maxHeartbeats 4000000 in
theorem M_numb (hS : z_St S) (hP : z_Pt P) (ht : k_hd (I 83 18) (I 99) T) {b : Nat} (hb : b ≤ T.1) (h2 : I 83 19 = z_n b) (h4 : I 83 20 = z_n b) (h5 : I 83 23 = z_n 0) : f_Mo_nextToken_L224 83 q_FU (z_h S I J P n) = some ((), z_h S (z_up (z_up I 83 23 (z_n (k_dv T b (min (k_rn T k_dg b) 4)))) 83 19 (z_n (b + k_rn T k_dg b))) J P n) := by
  have le := k_rn_le T k_dg b
  have t1 := ht.1
  have e2 : ∀ u v, z_up (z_up I 83 23 u) 83 19 v 83 19 = v := fun u v => z_up_s _ _ _ _
  have e4 : ∀ u v, z_up (z_up I 83 23 u) 83 19 v 83 20 = z_n b := fun u v => by rw [z_up_e, if_neg (by decide), z_up_e, if_neg (by decide)]; exact h4
  have e5 : ∀ u v, z_up (z_up I 83 23 u) 83 19 v 83 23 = u := fun u v => by rw [z_up_e, if_neg (by decide), z_up_s]
  have e6 : ∀ u v w, z_up (z_up (z_up I 83 23 u) 83 19 v) 83 23 w 83 19 = v := fun u v w => by rw [z_up_e, if_neg (by decide), z_up_s]
  have e7 : ∀ u v w x, z_up (z_up (z_up (z_up I 83 23 u) 83 19 v) 83 23 w) 83 19 x = z_up (z_up I 83 23 w) 83 19 x := by
    intro u v w x
    funext c j
    unfold z_up
    split
    · rfl
    · rename_i h1
      split
      · rfl
      · rename_i h3
        rfl
  have om := fun I J => z_ob (I := I) (J := J) (P := P) (n := n) (s_83 hS)
  have sg := fun (u v : Int32) (x : Nat) (hx : x ≤ T.1) => M_sign (I := z_up (z_up I 83 23 u) 83 19 v) (J := J) (n := n) hS hP (k_cg3 ht (by rw [z_up_e, if_neg (by decide), z_up_e, if_neg (by decide)]) (by rw [z_ups (by decide), z_ups (by decide)])) hx
  have h := z_run (fun m i => f_Mo_nextToken_L224 83 m (z_h S (z_up (z_up I 83 23 (z_n (k_dv T b (min i 4)))) 83 19 (z_n (b + i))) J P n)) (k_rn T k_dg b) (r := some ((), z_h S (z_up (z_up I 83 23 (z_n (k_dv T b (min (k_rn T k_dg b) 4)))) 83 19 (z_n (b + k_rn T k_dg b))) J P n)) (by omega)
    (by
      intro m i hi
      have g := k_rn_in hi
      unfold k_dg at g
      rw [decide_eq_true_eq] at g
      have lt : b + i < T.1 := by omega
      have s1 := fun u => sg u (z_n (b + i)) (b + i) (by omega)
      simp only [if_pos lt] at s1
      have es : z_n (b + i) - z_n b = z_n i := by rw [z_n_sub (by omega), Nat.add_sub_cancel_left]
      by_cases q8 : i < 4
      · rw [Nat.min_eq_left (show i ≤ 4 by omega), Nat.min_eq_left (show i + 1 ≤ 4 by omega)]
        have ew : z_n (k_dv T b i * 10 + T.2 (b + i)) - z_n 48 = z_n (k_dv T b (i + 1)) := by
          rw [z_n_sub (by omega), k_dv]
          congr 1
          omega
        generalize k_dv T b (i + 1) = w' at *
        generalize k_dv T b i = w at *
        simp (disch := omega) only [f_Mo_nextToken_L224, z_Mr hS hP, z_Mw hS, om, e2, e4, e5, e6, e7, s1, es, ew, q8, or_true, true_or, or_false, false_or, z_b_T, z_b_F, Bool.false_eq_true, Classical.not_not, decide_eq_true_eq, z_sq, Option.bind_some, z_lits, z_n_add, z_n_mul, z_lt, z_le, z_eq, z_ne1, z_1ne, z_lt1, z_1lt, z_ltT, z_ltF, z_leT, z_leF, z_eqF, z_b_0, z_b_1, ↓reduceIte, eq_self, not_true_eq_false, not_false_eq_true, and_true, true_and, and_false, false_and, Nat.add_zero, Nat.zero_add, Nat.add_assoc]
      · rw [Nat.min_eq_right (show 4 ≤ i by omega), Nat.min_eq_right (show 4 ≤ i + 1 by omega)]
        simp (disch := omega) only [f_Mo_nextToken_L224, z_Mr hS hP, z_Mw hS, om, e2, e4, s1, es, q8, z_up_up, or_true, true_or, or_false, false_or, z_b_T, z_b_F, Bool.false_eq_true, Classical.not_not, decide_eq_true_eq, z_sq, Option.bind_some, z_lits, z_n_add, z_n_mul, z_lt, z_le, z_eq, z_ne1, z_1ne, z_lt1, z_1lt, z_ltT, z_ltF, z_leT, z_leF, z_eqF, z_b_0, z_b_1, ↓reduceIte, eq_self, not_true_eq_false, not_false_eq_true, and_true, true_and, and_false, false_and, Nat.add_zero, Nat.zero_add, Nat.add_assoc])
    (by
      intro m
      generalize k_dv T b (min (k_rn T k_dg b) 4) = w
      by_cases q : b + k_rn T k_dg b < T.1
      · have g := k_rn_at q
        obtain ⟨r1, r2⟩ := ht.r q
        generalize b + k_rn T k_dg b = x at *
        unfold k_dg at g
        rw [decide_eq_false_iff_not] at g
        have s1 := fun u => sg u (z_n x) x (by omega)
        simp only [if_pos q] at s1
        by_cases g1 : T.2 x < 48
        · simp (disch := omega) only [f_Mo_nextToken_L224, z_Mr hS hP, om, e2, s1, g1, or_true, true_or, or_false, false_or, z_b_T, z_b_F, Bool.false_eq_true, Classical.not_not, decide_eq_true_eq, z_sq, Option.bind_some, z_lits, z_n_add, z_n_mul, z_lt, z_le, z_eq, z_ne1, z_1ne, z_lt1, z_1lt, z_ltT, z_ltF, z_leT, z_leF, z_eqF, z_b_0, z_b_1, ↓reduceIte, eq_self, not_true_eq_false, not_false_eq_true, and_true, true_and, and_false, false_and, Nat.add_zero, Nat.zero_add]
        · have g2 : 57 < T.2 x := by omega
          simp (disch := omega) only [f_Mo_nextToken_L224, z_Mr hS hP, om, e2, s1, g1, g2, or_true, true_or, or_false, false_or, z_b_T, z_b_F, Bool.false_eq_true, Classical.not_not, decide_eq_true_eq, z_sq, Option.bind_some, z_lits, z_n_add, z_n_mul, z_lt, z_le, z_eq, z_ne1, z_1ne, z_lt1, z_1lt, z_ltT, z_ltF, z_leT, z_leF, z_eqF, z_b_0, z_b_1, ↓reduceIte, eq_self, not_true_eq_false, not_false_eq_true, and_true, true_and, and_false, false_and, Nat.add_zero, Nat.zero_add]
      · have q' : b + k_rn T k_dg b = T.1 := by omega
        rw [q']
        have s1 := fun u => sg u (z_n T.1) T.1 (by omega)
        simp only [Nat.lt_irrefl, if_false] at s1
        simp (disch := omega) only [f_Mo_nextToken_L224, z_Mr hS hP, om, e2, s1, or_true, true_or, or_false, false_or, z_b_T, z_b_F, Bool.false_eq_true, Classical.not_not, decide_eq_true_eq, z_sq, Option.bind_some, z_lits, z_n_add, z_n_mul, z_lt, z_le, z_eq, z_ne1, z_1ne, z_lt1, z_1lt, z_ltT, z_ltF, z_leT, z_leF, z_eqF, z_b_0, z_b_1, ↓reduceIte, eq_self, not_true_eq_false, not_false_eq_true, and_true, true_and, and_false, false_and, Nat.add_zero, Nat.zero_add])
  simp only [Nat.add_zero] at h
  have hj : z_up (z_up I 83 23 (z_n (k_dv T b (min 0 4)))) 83 19 (z_n b) = I := by
    rw [z_up_id (show I 83 23 = z_n (k_dv T b (min 0 4)) from h5), z_up_id h2]
  rw [hj] at h
  exact h
set_option maxRecDepth 100000 in
set_option maxHeartbeats 4000000 in
theorem M_next (hS : z_St S) (hP : z_Pt P) (ht : k_hd (I 83 18) (I 99) T) {p : Nat} (hp : p ≤ T.1) (h2 : I 83 19 = z_n p) : ∃ X Z, f_Mo_nextToken 83 (z_h S I J P n) = some ((), z_h S X Z P n) ∧ (∀ a, a ≠ 83 → X a = I a) ∧ (∀ i, i ≠ 19 → i ≠ 20 → i ≠ 21 → i ≠ 23 → X 83 i = I 83 i) ∧ (∀ a, a ≠ 83 → Z a = J a) ∧ (∀ i, i ≠ 22 → Z 83 i = J 83 i) ∧ k_M T p X Z := by
  have sk := M_skip (J := J) (n := n) hS hP ht hp h2
  have hb := k_b_le hp
  have t1 := ht.1
  have t2 := ht.2.1
  have om := fun I J => z_ob (I := I) (J := J) (P := P) (n := n) (s_83 hS)
  have x0 : z_up I 83 19 (z_n (k_b T p)) 83 19 = z_n (k_b T p) := z_up_s _ _ _ _
  have x18 : z_up (z_up (z_up I 83 19 (z_n (k_b T p))) 83 20 (z_n (k_b T p))) 83 23 (z_n 0) 83 18 = z_n T.1 := by rw [z_up_e, if_neg (by decide), z_up_e, if_neg (by decide), z_up_e, if_neg (by decide)]; exact t2
  have x19 : z_up (z_up (z_up I 83 19 (z_n (k_b T p))) 83 20 (z_n (k_b T p))) 83 23 (z_n 0) 83 19 = z_n (k_b T p) := by rw [z_up_e, if_neg (by decide), z_up_e, if_neg (by decide), z_up_s]
  have x20 : z_up (z_up (z_up I 83 19 (z_n (k_b T p))) 83 20 (z_n (k_b T p))) 83 23 (z_n 0) 83 20 = z_n (k_b T p) := by rw [z_up_e, if_neg (by decide), z_up_s]
  have x23 : z_up (z_up (z_up I 83 19 (z_n (k_b T p))) 83 20 (z_n (k_b T p))) 83 23 (z_n 0) 83 23 = z_n 0 := z_up_s _ _ _ _
  have xa : ∀ a, a ≠ 83 → z_up (z_up (z_up I 83 19 (z_n (k_b T p))) 83 20 (z_n (k_b T p))) 83 23 (z_n 0) a = I a := fun a ha => by rw [z_ups ha, z_ups ha, z_ups ha]
  have xi : ∀ i, i ≠ 19 → i ≠ 20 → i ≠ 23 → z_up (z_up (z_up I 83 19 (z_n (k_b T p))) 83 20 (z_n (k_b T p))) 83 23 (z_n 0) 83 i = I 83 i := fun i h1 h2 h3 => by rw [z_up_e, if_neg h3, z_up_e, if_neg h2, z_up_e, if_neg h1]
  have j22 : z_uj J 83 22 0 83 22 = 0 := z_uj_s _ _ _ _
  have ja : ∀ a, a ≠ 83 → z_uj J 83 22 0 a = J a := fun a ha => z_uj_r ha
  have ji : ∀ i, i ≠ 22 → z_uj J 83 22 0 83 i = J 83 i := fun i hi => by rw [z_uj_e, if_neg hi]
  have ht' : k_hd (z_up (z_up (z_up I 83 19 (z_n (k_b T p))) 83 20 (z_n (k_b T p))) 83 23 (z_n 0) 83 18) (z_up (z_up (z_up I 83 19 (z_n (k_b T p))) 83 20 (z_n (k_b T p))) 83 23 (z_n 0) 99) T := by
    rw [x18, xa 99 (by decide)]; exact ⟨t1, rfl, ht.2.2⟩
  generalize hX : z_up (z_up (z_up I 83 19 (z_n (k_b T p))) 83 20 (z_n (k_b T p))) 83 23 (z_n 0) = X at *
  generalize hZ : z_uj J 83 22 0 = Z at *
  have tw := M_word (J := Z) (n := n) hS hP ht' hb.2 x19 x20 j22
  have a19 : q_gi (q_gf (z_h S (z_up I 83 19 (z_n (k_b T p))) J P n) 12 83 19) = some (z_n (k_b T p)) := by rw [z_gi (s_83 hS) rfl, x0]
  have w20 : ∀ I J v, q_sf (z_h S I J P n) 12 83 20 (.int v) = some (z_h S (z_up I 83 20 v) J P n) := fun _ _ _ => z_sfi (s_83 hS) (by decide) rfl
  have w21 : ∀ I J v, q_sf (z_h S I J P n) 12 83 21 (.int v) = some (z_h S (z_up I 83 21 v) J P n) := fun _ _ _ => z_sfi (s_83 hS) (by decide) rfl
  have w19 : ∀ I J v, q_sf (z_h S I J P n) 12 83 19 (.int v) = some (z_h S (z_up I 83 19 v) J P n) := fun _ _ _ => z_sfi (s_83 hS) (by decide) rfl
  have w22 : ∀ I J v, q_sf (z_h S I J P n) 12 83 22 (.long v) = some (z_h S I (z_uj J 83 22 v) P n) := fun _ _ _ => z_sfl (s_83 hS) (by decide) rfl
  have w23 : ∀ I J, q_sf (z_h S I J P n) 12 83 23 (.int (0 : Int32)) = some (z_h S (z_up I 83 23 (z_n 0)) J P n) := fun _ _ => z_sfi (s_83 hS) (by decide) rfl
  have g19 : ∀ I J, q_gi (q_gf (z_h S I J P n) 12 83 19) = some (I 83 19) := fun _ _ => z_gi (s_83 hS) rfl
  have g20 : ∀ I J, q_gi (q_gf (z_h S I J P n) 12 83 20) = some (I 83 20) := fun _ _ => z_gi (s_83 hS) rfl
  have r19 : q_gi (q_gf (z_h S X Z P n) 12 83 19) = some (z_n (k_b T p)) := by rw [g19, x19]
  have r18 : q_gi (q_gf (z_h S X Z P n) 12 83 18) = some (z_n T.1) := by rw [z_gi (s_83 hS) rfl, x18]
  have r17 : q_gr (q_gf (z_h S X Z P n) 12 83 17) = some 99 := z_gr (s_83 hS) rfl (p_83_17 hP)
  have tn := M_numb (J := Z) (n := n) hS hP ht' hb.2 x19 x20 x23
  have lw := k_rn_le T k_lt (k_b T p)
  have ln := k_rn_le T k_dg (k_b T p)
  unfold k_M k_e k_k k_vl
  by_cases q : k_b T p = T.1
  · simp only [if_pos q]
    refine ⟨z_up X 83 21 (z_n 0), Z, ?_, fun a ha => by rw [z_ups ha]; exact xa a ha, fun i h1 h2 h3 h4 => by rw [z_up_e, if_neg h3]; exact xi i h1 h2 h4, ja, ji, ?_, ?_, z_up_s _ _ _ _, fun h => absurd h (by decide), fun h => absurd h (by decide)⟩
    · unfold f_Mo_nextToken
      rw [sk, z_sq, a19, Option.bind_some, w20, Option.bind_some, w22, Option.bind_some, w23, Option.bind_some, hX, hZ, r19, Option.bind_some, r18, Option.bind_some, if_pos (by rw [q])]
      simp only [w21, Option.bind_some, z_lits]
    · rw [z_up_e, if_neg (by decide), x19, q]
    · rw [z_up_e, if_neg (by decide), x20]
  · have q' : k_b T p < T.1 := by omega
    simp only [if_neg q]
    obtain ⟨r1, r2⟩ := ht'.r q'
    have nq : ¬ z_n (k_b T p) = z_n T.1 := by rw [z_eq (by omega) (by omega)]; exact q
    have t99 : q_gi (q_ga (z_h S X Z P n) 20 99 (z_n (k_b T p))) = some (z_n (T.2 (k_b T p))) := by rw [z_gia (s_99 hS) (by omega) (z_rpl (by omega)), r1]
    by_cases q1 : k_lt (T.2 (k_b T p)) = true
    · simp only [if_pos q1]
      have g := q1
      unfold k_lt at g
      rw [decide_eq_true_eq] at g
      have es : z_n (k_b T p + k_rn T k_lt (k_b T p)) - z_n (k_b T p) = z_n (k_rn T k_lt (k_b T p)) := by rw [z_n_sub (by omega), Nat.add_sub_cancel_left]
      have y19 : z_up X 83 19 (z_n (k_b T p + k_rn T k_lt (k_b T p))) 83 19 = z_n (k_b T p + k_rn T k_lt (k_b T p)) := z_up_s _ _ _ _
      have y20 : z_up X 83 19 (z_n (k_b T p + k_rn T k_lt (k_b T p))) 83 20 = z_n (k_b T p) := by rw [z_up_e, if_neg (by decide), x20]
      refine ⟨z_up (z_up X 83 19 (z_n (k_b T p + k_rn T k_lt (k_b T p)))) 83 21 (z_n (if 8 < k_rn T k_lt (k_b T p) then 4 else 1)), z_uj Z 83 22 (k_wd T (k_b T p) (min (k_rn T k_lt (k_b T p)) 8)), ?_, fun a ha => by rw [z_ups ha, z_ups ha]; exact xa a ha, fun i h1 h2 h3 h4 => by rw [z_up_e, if_neg h3, z_up_e, if_neg h1]; exact xi i h1 h2 h4, fun a ha => by rw [z_uj_r ha]; exact ja a ha, fun i hi => by rw [z_uj_e, if_neg hi]; exact ji i hi, ?_, ?_, z_up_s _ _ _ _, fun h => ?_, fun h => ?_⟩
      · unfold f_Mo_nextToken
        rw [sk, z_sq, a19, Option.bind_some, w20, Option.bind_some, w22, Option.bind_some, w23, Option.bind_some, hX, hZ, r19, Option.bind_some, r18, Option.bind_some, if_neg nq, r17, Option.bind_some, Option.bind_some, t99, Option.bind_some]
        by_cases q8 : 8 < k_rn T k_lt (k_b T p) <;> simp (disch := omega) only [tw, g19, g20, w21, y19, y20, es, q8, or_true, true_or, or_false, false_or, z_b_T, z_b_F, Bool.false_eq_true, Classical.not_not, decide_eq_true_eq, z_sq, Option.bind_some, z_lits, z_n_add, z_n_mul, z_lt, z_le, z_eq, z_ne1, z_1ne, z_lt1, z_1lt, z_ltT, z_ltF, z_leT, z_leF, z_eqF, z_b_0, z_b_1, ↓reduceIte, eq_self, not_true_eq_false, not_false_eq_true, and_true, true_and, and_false, false_and, Nat.add_zero, Nat.zero_add]
      · rw [z_up_e, if_neg (by decide), z_up_s]
      · rw [z_up_e, if_neg (by decide), y20]
      · by_cases q8 : 8 < k_rn T k_lt (k_b T p)
        · rw [if_pos q8] at h; cases h
        · rw [z_uj_s, Nat.min_eq_left (by omega)]
      · split at h <;> cases h
    · simp only [if_neg q1]
      have g := q1
      unfold k_lt at g
      rw [decide_eq_true_eq] at g
      by_cases q2 : k_dg (T.2 (k_b T p)) = true
      · simp only [if_pos q2]
        have g2 := q2
        unfold k_dg at g2
        rw [decide_eq_true_eq] at g2
        have es : z_n (k_b T p + k_rn T k_dg (k_b T p)) - z_n (k_b T p) = z_n (k_rn T k_dg (k_b T p)) := by rw [z_n_sub (by omega), Nat.add_sub_cancel_left]
        have y19 : z_up (z_up X 83 23 (z_n (k_dv T (k_b T p) (min (k_rn T k_dg (k_b T p)) 4)))) 83 19 (z_n (k_b T p + k_rn T k_dg (k_b T p))) 83 19 = z_n (k_b T p + k_rn T k_dg (k_b T p)) := z_up_s _ _ _ _
        have y20 : z_up (z_up X 83 23 (z_n (k_dv T (k_b T p) (min (k_rn T k_dg (k_b T p)) 4)))) 83 19 (z_n (k_b T p + k_rn T k_dg (k_b T p))) 83 20 = z_n (k_b T p) := by rw [z_up_e, if_neg (by decide), z_up_e, if_neg (by decide), x20]
        refine ⟨z_up (z_up (z_up X 83 23 (z_n (k_dv T (k_b T p) (min (k_rn T k_dg (k_b T p)) 4)))) 83 19 (z_n (k_b T p + k_rn T k_dg (k_b T p)))) 83 21 (z_n (if 4 < k_rn T k_dg (k_b T p) then 4 else 2)), Z, ?_, fun a ha => by rw [z_ups ha, z_ups ha, z_ups ha]; exact xa a ha, fun i h1 h2 h3 h4 => by rw [z_up_e, if_neg h3, z_up_e, if_neg h1, z_up_e, if_neg h4]; exact xi i h1 h2 h4, ja, ji, ?_, ?_, z_up_s _ _ _ _, fun h => ?_, fun h => ?_⟩
        · unfold f_Mo_nextToken
          rw [sk, z_sq, a19, Option.bind_some, w20, Option.bind_some, w22, Option.bind_some, w23, Option.bind_some, hX, hZ, r19, Option.bind_some, r18, Option.bind_some, if_neg nq, r17, Option.bind_some, Option.bind_some, t99, Option.bind_some]
          by_cases q8 : 4 < k_rn T k_dg (k_b T p) <;> simp (disch := omega) only [tn, g19, g20, w21, y19, y20, es, q8, or_true, true_or, or_false, false_or, z_b_T, z_b_F, Bool.false_eq_true, Classical.not_not, decide_eq_true_eq, z_sq, Option.bind_some, z_lits, z_n_add, z_n_mul, z_lt, z_le, z_eq, z_ne1, z_1ne, z_lt1, z_1lt, z_ltT, z_ltF, z_leT, z_leF, z_eqF, z_b_0, z_b_1, ↓reduceIte, eq_self, not_true_eq_false, not_false_eq_true, and_true, true_and, and_false, false_and, Nat.add_zero, Nat.zero_add]
        · rw [z_up_e, if_neg (by decide), z_up_s]
        · rw [z_up_e, if_neg (by decide), y20]
        · split at h <;> cases h
        · by_cases q8 : 4 < k_rn T k_dg (k_b T p)
          · rw [if_pos q8] at h; cases h
          · have b4 := k_dv_le T (k_b T p) (k_rn T k_dg (k_b T p)) (fun j hj => by
              have := k_rn_in hj
              unfold k_dg at this
              rw [decide_eq_true_eq] at this
              exact this.2)
            have b5 : 10 ^ (k_rn T k_dg (k_b T p)) ≤ 10 ^ 4 := Nat.pow_le_pow_right (by decide) (by omega)
            refine ⟨k_dv T (k_b T p) (k_rn T k_dg (k_b T p)), by omega, rfl, ?_⟩
            rw [z_up_e, if_neg (by decide), z_up_e, if_neg (by decide), z_up_s, Nat.min_eq_left (by omega)]
      · simp only [if_neg q2]
        have g2 := q2
        unfold k_dg at g2
        rw [decide_eq_true_eq] at g2
        have key : ∀ v, (if k_sn (T.2 (k_b T p)) = true then 3 else 4) = v → f_Mo_nextToken 83 (z_h S I J P n) = some ((), z_h S (z_up (z_up X 83 19 (z_n (k_b T p + 1))) 83 21 (z_n v)) Z P n) := by
          intro v hv
          have sn : (k_sn (T.2 (k_b T p)) = true) = ((40 ≤ T.2 (k_b T p) ∧ T.2 (k_b T p) ≤ 43) ∨ T.2 (k_b T p) = 45 ∨ (59 ≤ T.2 (k_b T p) ∧ T.2 (k_b T p) ≤ 61)) := by unfold k_sn; rw [decide_eq_true_eq]
          simp only [sn] at hv
          unfold f_Mo_nextToken
          rw [sk, z_sq, a19, Option.bind_some, w20, Option.bind_some, w22, Option.bind_some, w23, Option.bind_some, hX, hZ, r19, Option.bind_some, r18, Option.bind_some, if_neg nq, r17, Option.bind_some, Option.bind_some, t99, Option.bind_some]
          generalize T.2 (k_b T p) = c at *
          have cs : c < 40 ∨ (40 ≤ c ∧ c ≤ 43) ∨ c = 44 ∨ c = 45 ∨ (46 ≤ c ∧ c < 48) ∨ c = 58 ∨ (59 ≤ c ∧ c ≤ 61) ∨ (62 ≤ c ∧ c < 97) ∨ 122 < c := by omega
          rcases cs with h | h | h | h | h | h | h | h | h
          · rw [if_neg (by omega)] at hv; subst hv
            simp (disch := omega) only [r19, w19, w21, or_true, true_or, or_false, false_or, z_b_T, z_b_F, Bool.false_eq_true, Classical.not_not, decide_eq_true_eq, z_sq, Option.bind_some, z_lits, z_n_add, z_n_mul, z_lt, z_le, z_eq, z_ne1, z_1ne, z_lt1, z_1lt, z_ltT, z_ltF, z_leT, z_leF, z_eqF, z_b_0, z_b_1, ↓reduceIte, eq_self, not_true_eq_false, not_false_eq_true, and_true, true_and, and_false, false_and, Nat.add_zero, Nat.zero_add]
          · rw [if_pos (by omega)] at hv; subst hv
            simp (disch := omega) only [r19, w19, w21, or_true, true_or, or_false, false_or, z_b_T, z_b_F, Bool.false_eq_true, Classical.not_not, decide_eq_true_eq, z_sq, Option.bind_some, z_lits, z_n_add, z_n_mul, z_lt, z_le, z_eq, z_ne1, z_1ne, z_lt1, z_1lt, z_ltT, z_ltF, z_leT, z_leF, z_eqF, z_b_0, z_b_1, ↓reduceIte, eq_self, not_true_eq_false, not_false_eq_true, and_true, true_and, and_false, false_and, Nat.add_zero, Nat.zero_add]
          · rw [if_neg (by omega)] at hv; subst hv; subst h
            simp (disch := omega) only [r19, w19, w21, or_true, true_or, or_false, false_or, z_b_T, z_b_F, Bool.false_eq_true, Classical.not_not, decide_eq_true_eq, z_sq, Option.bind_some, z_lits, z_n_add, z_n_mul, z_lt, z_le, z_eq, z_ne1, z_1ne, z_lt1, z_1lt, z_ltT, z_ltF, z_leT, z_leF, z_eqF, z_b_0, z_b_1, ↓reduceIte, eq_self, not_true_eq_false, not_false_eq_true, and_true, true_and, and_false, false_and, Nat.add_zero, Nat.zero_add]
          · rw [if_pos (by omega)] at hv; subst hv; subst h
            simp (disch := omega) only [r19, w19, w21, or_true, true_or, or_false, false_or, z_b_T, z_b_F, Bool.false_eq_true, Classical.not_not, decide_eq_true_eq, z_sq, Option.bind_some, z_lits, z_n_add, z_n_mul, z_lt, z_le, z_eq, z_ne1, z_1ne, z_lt1, z_1lt, z_ltT, z_ltF, z_leT, z_leF, z_eqF, z_b_0, z_b_1, ↓reduceIte, eq_self, not_true_eq_false, not_false_eq_true, and_true, true_and, and_false, false_and, Nat.add_zero, Nat.zero_add]
          · rw [if_neg (by omega)] at hv; subst hv
            simp (disch := omega) only [r19, w19, w21, or_true, true_or, or_false, false_or, z_b_T, z_b_F, Bool.false_eq_true, Classical.not_not, decide_eq_true_eq, z_sq, Option.bind_some, z_lits, z_n_add, z_n_mul, z_lt, z_le, z_eq, z_ne1, z_1ne, z_lt1, z_1lt, z_ltT, z_ltF, z_leT, z_leF, z_eqF, z_b_0, z_b_1, ↓reduceIte, eq_self, not_true_eq_false, not_false_eq_true, and_true, true_and, and_false, false_and, Nat.add_zero, Nat.zero_add]
          · rw [if_neg (by omega)] at hv; subst hv; subst h
            simp (disch := omega) only [r19, w19, w21, or_true, true_or, or_false, false_or, z_b_T, z_b_F, Bool.false_eq_true, Classical.not_not, decide_eq_true_eq, z_sq, Option.bind_some, z_lits, z_n_add, z_n_mul, z_lt, z_le, z_eq, z_ne1, z_1ne, z_lt1, z_1lt, z_ltT, z_ltF, z_leT, z_leF, z_eqF, z_b_0, z_b_1, ↓reduceIte, eq_self, not_true_eq_false, not_false_eq_true, and_true, true_and, and_false, false_and, Nat.add_zero, Nat.zero_add]
          · rw [if_pos (by omega)] at hv; subst hv
            simp (disch := omega) only [r19, w19, w21, or_true, true_or, or_false, false_or, z_b_T, z_b_F, Bool.false_eq_true, Classical.not_not, decide_eq_true_eq, z_sq, Option.bind_some, z_lits, z_n_add, z_n_mul, z_lt, z_le, z_eq, z_ne1, z_1ne, z_lt1, z_1lt, z_ltT, z_ltF, z_leT, z_leF, z_eqF, z_b_0, z_b_1, ↓reduceIte, eq_self, not_true_eq_false, not_false_eq_true, and_true, true_and, and_false, false_and, Nat.add_zero, Nat.zero_add]
          · rw [if_neg (by omega)] at hv; subst hv
            simp (disch := omega) only [r19, w19, w21, or_true, true_or, or_false, false_or, z_b_T, z_b_F, Bool.false_eq_true, Classical.not_not, decide_eq_true_eq, z_sq, Option.bind_some, z_lits, z_n_add, z_n_mul, z_lt, z_le, z_eq, z_ne1, z_1ne, z_lt1, z_1lt, z_ltT, z_ltF, z_leT, z_leF, z_eqF, z_b_0, z_b_1, ↓reduceIte, eq_self, not_true_eq_false, not_false_eq_true, and_true, true_and, and_false, false_and, Nat.add_zero, Nat.zero_add]
          · rw [if_neg (by omega)] at hv; subst hv
            simp (disch := omega) only [r19, w19, w21, or_true, true_or, or_false, false_or, z_b_T, z_b_F, Bool.false_eq_true, Classical.not_not, decide_eq_true_eq, z_sq, Option.bind_some, z_lits, z_n_add, z_n_mul, z_lt, z_le, z_eq, z_ne1, z_1ne, z_lt1, z_1lt, z_ltT, z_ltF, z_leT, z_leF, z_eqF, z_b_0, z_b_1, ↓reduceIte, eq_self, not_true_eq_false, not_false_eq_true, and_true, true_and, and_false, false_and, Nat.add_zero, Nat.zero_add]
        refine ⟨z_up (z_up X 83 19 (z_n (k_b T p + 1))) 83 21 (z_n (if k_sn (T.2 (k_b T p)) = true then 3 else 4)), Z, key _ rfl, fun a ha => by rw [z_ups ha, z_ups ha]; exact xa a ha, fun i h1 h2 h3 h4 => by rw [z_up_e, if_neg h3, z_up_e, if_neg h1]; exact xi i h1 h2 h4, ja, ji, ?_, ?_, z_up_s _ _ _ _, fun h => ?_, fun h => ?_⟩
        · rw [z_up_e, if_neg (by decide), z_up_s]
        · rw [z_up_e, if_neg (by decide), z_up_e, if_neg (by decide), x20]
        · split at h <;> cases h
        · split at h <;> cases h
end
