/-! Tokens: the class advances. -/
theorem k_i8 : ∀ c, c < 128 → (z_n c).toInt8.toInt32 = z_n c := by decide +kernel
theorem k_sg_sn : ∀ c, c < 127 → (decide (z_ff (fun i => decide (k_sg.getD i 0 = c)) 8 < 8) = k_sn c) := by decide +kernel
theorem k_sg_le : ∀ i, i < 8 → k_sg.getD i 0 < 127 := by decide
/-- what does not change: strings and codes -/
def k_cs (I : z_MI) : Prop := (∀ i, i < 8 → I 7 i = z_n (k_sg.getD i 0)) ∧ I 4 1 = z_n 0
/-- the class's tape stands at the token of p -/
def k_C (T : k_T) (p : Nat) (I : z_MI) (J : z_MJ) : Prop := I 9 2 = z_n (k_e T p) ∧ I 9 3 = z_n (k_k T p) ∧ I 9 4 = z_n (k_b T p) ∧ J 9 5 = k_vl T p
section
variable {S : z_SH} {I : z_MI} {J : z_MJ} {P : z_MP} {K : Nat → Bool} {n : Nat × Nat} {T : k_T}
set_option maxRecDepth 100000 in
set_option maxHeartbeats 4000000 in
theorem C_sig (hS : z_St S) (hP : z_Pt P) (hc : k_cs I) {c : Nat} (h : c ≤ 126) : ∃ r, f_St_indexOf1 4 (z_n c) (z_h S I J P n) = some (r, z_h S I J P n) ∧ (r < z_n 0) = (k_sn c = false) := by
  obtain ⟨c1, c2⟩ := hc
  have i8 := k_i8 c (by omega)
  have le := z_ff_le (fun i => decide (k_sg.getD i 0 = c)) 8
  have key := z_run (r := some ((if z_ff (fun i => decide (k_sg.getD i 0 = c)) 8 < 8 then Sum.inl (z_n (z_ff (fun i => decide (k_sg.getD i 0 = c)) 8)) else Sum.inr ()), z_h S I J P n)) (fun m i => f_Sl_indexOfChar_L7 7 (z_n 8) (z_n c) m (z_n i) (z_h S I J P n)) (z_ff (fun i => decide (k_sg.getD i 0 = c)) 8) (by omega)
    (by
      intro m i hi
      have no := of_decide_eq_false (z_ff_no _ _ _ hi)
      have h8 : i < 8 := by omega
      have e := c1 i h8
      have l := k_sg_le i h8
      generalize k_sg.getD i 0 = g at *
      simp (disch := omega) only [f_Sl_indexOfChar_L7, h8, z_Clr hS hP, e, no, or_true, true_or, or_false, false_or, z_b_T, z_b_F, Bool.false_eq_true, Classical.not_not, decide_eq_true_eq, z_sq, Option.bind_some, z_lits, z_n_add, z_n_mul, z_lt, z_le, z_eq, z_ne1, z_1ne, z_lt1, z_1lt, z_ltT, z_ltF, z_leT, z_leF, z_eqF, z_b_0, z_b_1, ↓reduceIte, eq_self, not_true_eq_false, not_false_eq_true, and_true, true_and, and_false, false_and, Nat.add_zero, Nat.zero_add])
    (by
      intro m
      by_cases q : z_ff (fun i => decide (k_sg.getD i 0 = c)) 8 < 8
      · rw [if_pos q]
        have is := of_decide_eq_true (z_ff_is _ _ q)
        generalize z_ff (fun i => decide (k_sg.getD i 0 = c)) 8 = i at *
        have e := c1 i q
        rw [is] at e
        simp (disch := omega) only [f_Sl_indexOfChar_L7, q, z_Clr hS hP, e, or_true, true_or, or_false, false_or, z_b_T, z_b_F, Bool.false_eq_true, Classical.not_not, decide_eq_true_eq, z_sq, Option.bind_some, z_lits, z_n_add, z_n_mul, z_lt, z_le, z_eq, z_ne1, z_1ne, z_lt1, z_1lt, z_ltT, z_ltF, z_leT, z_leF, z_eqF, z_b_0, z_b_1, ↓reduceIte, eq_self, not_true_eq_false, not_false_eq_true, and_true, true_and, and_false, false_and, Nat.add_zero, Nat.zero_add]
      · rw [if_neg q]
        have e : z_ff (fun i => decide (k_sg.getD i 0 = c)) 8 = 8 := by omega
        rw [e]
        simp (disch := omega) only [f_Sl_indexOfChar_L7, Nat.lt_irrefl, or_true, true_or, or_false, false_or, z_b_T, z_b_F, Bool.false_eq_true, Classical.not_not, decide_eq_true_eq, z_sq, Option.bind_some, z_lits, z_n_add, z_n_mul, z_lt, z_le, z_eq, z_ne1, z_1ne, z_lt1, z_1lt, z_ltT, z_ltF, z_leT, z_leF, z_eqF, z_b_0, z_b_1, ↓reduceIte, eq_self, not_true_eq_false, not_false_eq_true, and_true, true_and, and_false, false_and, Nat.add_zero, Nat.zero_add])
  have sn := k_sg_sn c (by omega)
  generalize z_ff (fun i => decide (k_sg.getD i 0 = c)) 8 = z at *
  have nb : (narrow .byte (.int (z_n 0)) = .int (z_n 0)) = True := eq_true rfl
  have sh : z_n 8 >>> (z_n 0 &&& z_n 31) = z_n 8 := by decide
  have l0 : f_St_isLatin1 4 (z_h S I J P n) = some (z_n 1, z_h S I J P n) := by simp (disch := omega) only [f_St_isLatin1, z_Clr hS hP, c2, or_true, true_or, or_false, false_or, z_b_T, z_b_F, Bool.false_eq_true, Classical.not_not, decide_eq_true_eq, z_sq, Option.bind_some, z_lits, z_n_add, z_n_mul, z_lt, z_le, z_eq, z_ne1, z_1ne, z_lt1, z_1lt, z_ltT, z_ltF, z_leT, z_leF, z_eqF, z_b_0, z_b_1, ↓reduceIte, eq_self, not_true_eq_false, not_false_eq_true, and_true, true_and, and_false, false_and, Nat.add_zero, Nat.zero_add]
  have l1 : f_St_coder 4 (z_h S I J P n) = some (z_n 0, z_h S I J P n) := by simp (disch := omega) only [f_St_coder, z_Clr hS hP, c2, nb, or_true, true_or, or_false, false_or, z_b_T, z_b_F, Bool.false_eq_true, Classical.not_not, decide_eq_true_eq, z_sq, Option.bind_some, z_lits, z_n_add, z_n_mul, z_lt, z_le, z_eq, z_ne1, z_1ne, z_lt1, z_1lt, z_ltT, z_ltF, z_leT, z_leF, z_eqF, z_b_0, z_b_1, ↓reduceIte, eq_self, not_true_eq_false, not_false_eq_true, and_true, true_and, and_false, false_and, Nat.add_zero, Nat.zero_add]
  have l2 : f_St_length 4 (z_h S I J P n) = some (z_n 8, z_h S I J P n) := by simp (disch := omega) only [f_St_length, z_Clr hS hP, l1, sh, or_true, true_or, or_false, false_or, z_b_T, z_b_F, Bool.false_eq_true, Classical.not_not, decide_eq_true_eq, z_sq, Option.bind_some, z_lits, z_n_add, z_n_mul, z_lt, z_le, z_eq, z_ne1, z_1ne, z_lt1, z_1lt, z_ltT, z_ltF, z_leT, z_leF, z_eqF, z_b_0, z_b_1, ↓reduceIte, eq_self, not_true_eq_false, not_false_eq_true, and_true, true_and, and_false, false_and, Nat.add_zero, Nat.zero_add]
  have l3 : f_Sl_canEncode (z_n c) (z_h S I J P n) = some (z_n 1, z_h S I J P n) := by simp (disch := omega) only [f_Sl_canEncode, Nat.not_lt_zero, or_true, true_or, or_false, false_or, z_b_T, z_b_F, Bool.false_eq_true, Classical.not_not, decide_eq_true_eq, z_sq, Option.bind_some, z_lits, z_n_add, z_n_mul, z_lt, z_le, z_eq, z_ne1, z_1ne, z_lt1, z_1lt, z_ltT, z_ltF, z_leT, z_leF, z_eqF, z_b_0, z_b_1, ↓reduceIte, eq_self, not_true_eq_false, not_false_eq_true, and_true, true_and, and_false, false_and, Nat.add_zero, Nat.zero_add]
  refine ⟨if z < 8 then z_n z else -z_n 1, ?_, ?_⟩
  · have l4 : f_Sl_indexOfChar 7 (z_n c) (z_n 0) (z_n 8) (z_h S I J P n) = some ((if z < 8 then z_n z else -z_n 1), z_h S I J P n) := by
      unfold f_Sl_indexOfChar
      rw [i8, key, z_sq]
      by_cases q : z < 8
      · rw [if_pos q, if_pos q]
      · rw [if_neg q, if_neg q]; rfl
    simp (disch := omega) only [f_St_indexOf1, f_St_indexOf0, f_Sl_indexOf, z_Clr hS hP, l0, l2, l3, l4, Nat.lt_irrefl, or_true, true_or, or_false, false_or, z_b_T, z_b_F, Bool.false_eq_true, Classical.not_not, decide_eq_true_eq, z_sq, Option.bind_some, z_lits, z_n_add, z_n_mul, z_lt, z_le, z_eq, z_ne1, z_1ne, z_lt1, z_1lt, z_ltT, z_ltF, z_leT, z_leF, z_eqF, z_b_0, z_b_1, ↓reduceIte, eq_self, not_true_eq_false, not_false_eq_true, and_true, true_and, and_false, false_and, Nat.add_zero, Nat.zero_add]
  · by_cases q : z < 8
    · rw [if_pos q, z_lt (by omega) (by omega)]
      rw [decide_eq_true q] at sn
      rw [← sn]
      exact propext ⟨fun e => by omega, fun e => by cases e⟩
    · rw [if_neg q, z_1lt (by omega)]
      rw [decide_eq_false q] at sn
      rw [← sn]
      exact (eq_true rfl).symm
set_option maxRecDepth 100000 in
set_option maxHeartbeats 4000000 in
theorem C_adv (hS : z_St S) (hP : z_Pt P) (hc : k_cs I) (ht : k_hd (I 9 1) (I 10) T) {p : Nat} (hp : p ≤ T.1) (h2 : I 9 2 = z_n p) : ∃ X Z, f_Ta_advance 9 (z_h S I J P n) = some ((), z_h S X Z P n) ∧ (∀ a, a ≠ 9 → X a = I a) ∧ X 9 1 = I 9 1 ∧ (∀ a, a ≠ 9 → Z a = J a) ∧ k_C T p X Z := by
  have sk := C_skip (J := J) (n := n) hS hP ht hp h2
  have hb := k_b_le hp
  have t1 := ht.1
  have t2 := ht.2.1
  have ob9 := fun I J => z_ob (I := I) (J := J) (P := P) (n := n) (s_9 hS)
  have ob4 := fun I J => z_ob (I := I) (J := J) (P := P) (n := n) (s_4 hS)
  -- the heap behind the first lines
  have x1 : z_up (z_up I 9 2 (z_n (k_b T p))) 9 4 (z_n (k_b T p)) 9 1 = z_n T.1 := by rw [z_up_e, if_neg (by decide), z_up_e, if_neg (by decide)]; exact t2
  have x2 : z_up (z_up I 9 2 (z_n (k_b T p))) 9 4 (z_n (k_b T p)) 9 2 = z_n (k_b T p) := by rw [z_up_e, if_neg (by decide), z_up_s]
  have x4 : z_up (z_up I 9 2 (z_n (k_b T p))) 9 4 (z_n (k_b T p)) 9 4 = z_n (k_b T p) := z_up_s _ _ _ _
  have xa : ∀ a, a ≠ 9 → z_up (z_up I 9 2 (z_n (k_b T p))) 9 4 (z_n (k_b T p)) a = I a := fun a ha => by rw [z_ups ha, z_ups ha]
  have x0 : z_up I 9 2 (z_n (k_b T p)) 9 2 = z_n (k_b T p) := z_up_s _ _ _ _
  have j5 : z_uj J 9 5 0 9 5 = 0 := z_uj_s _ _ _ _
  have ja : ∀ a, a ≠ 9 → z_uj J 9 5 0 a = J a := fun a ha => z_uj_r ha
  have ht' : k_hd (z_up (z_up I 9 2 (z_n (k_b T p))) 9 4 (z_n (k_b T p)) 9 1) (z_up (z_up I 9 2 (z_n (k_b T p))) 9 4 (z_n (k_b T p)) 10) T := by
    rw [x1, xa 10 (by decide)]; exact ⟨t1, rfl, ht.2.2⟩
  have hc' : k_cs (z_up (z_up I 9 2 (z_n (k_b T p))) 9 4 (z_n (k_b T p))) := by
    unfold k_cs
    rw [xa 7 (by decide), xa 4 (by decide)]; exact hc
  generalize hX : z_up (z_up I 9 2 (z_n (k_b T p))) 9 4 (z_n (k_b T p)) = X at *
  generalize hZ : z_uj J 9 5 0 = Z at *
  have tw := C_takeW (P := P) (n := n) hS hP ht' hb.2 x2 x4 j5
  have tn := C_takeN (P := P) (n := n) hS hP ht' hb.2 x2 x4 j5
  unfold k_C k_e k_k k_vl
  by_cases q : k_b T p = T.1
  · simp only [if_pos q]
    refine ⟨z_up X 9 3 (z_n 0), Z, ?_, fun a ha => by rw [z_ups ha]; exact xa a ha, ?_, ja, ?_, z_up_s _ _ _ _, ?_, j5⟩
    · have q' : ¬ k_b T p < T.1 := by omega
      simp (disch := omega) only [f_Ta_advance, sk, z_Tar hS hP, z_Taw hS, x0, hX, hZ, x1, x2, q', or_true, true_or, or_false, false_or, z_b_T, z_b_F, Bool.false_eq_true, Classical.not_not, decide_eq_true_eq, z_sq, Option.bind_some, z_lits, z_n_add, z_n_mul, z_lt, z_le, z_eq, z_ne1, z_1ne, z_lt1, z_1lt, z_ltT, z_ltF, z_leT, z_leF, z_eqF, z_b_0, z_b_1, ↓reduceIte, eq_self, not_true_eq_false, not_false_eq_true, and_true, true_and, and_false, false_and, Nat.add_zero, Nat.zero_add]
    · rw [z_up_e, if_neg (by decide), x1, t2]
    · rw [z_up_e, if_neg (by decide), x2, q]
    · rw [z_up_e, if_neg (by decide), x4]
  · have q' : k_b T p < T.1 := by omega
    simp only [if_neg q]
    obtain ⟨r1, r2⟩ := ht'.r q'
    by_cases q1 : k_lt (T.2 (k_b T p)) = true
    · simp only [if_pos q1]
      have g := q1
      unfold k_lt at g
      rw [decide_eq_true_eq] at g
      have cf : ∀ σ : q_H, f_Rs_isFrom (z_n 97) (z_n (T.2 (k_b T p))) (z_n 122) σ = some (z_n 1, σ) := fun σ => by rw [C_isFrom, z_b_t ((k_f3 97 122 r2 (by omega) (by omega)).mpr g)]
      refine ⟨z_up (z_up X 9 2 (z_n (k_b T p + k_rn T k_lt (k_b T p)))) 9 3 (z_n (if 8 < k_rn T k_lt (k_b T p) then 4 else 1)), z_uj Z 9 5 (k_wd T (k_b T p) (k_rn T k_lt (k_b T p))), ?_, fun a ha => ?_, ?_, fun a ha => ?_, ?_, ?_, ?_, ?_⟩
      · simp (disch := omega) only [f_Ta_advance, sk, z_Tar hS hP, z_Taw hS, x0, hX, hZ, x1, x2, q', r1, cf, ob9, tw, or_true, true_or, or_false, false_or, z_b_T, z_b_F, Bool.false_eq_true, Classical.not_not, decide_eq_true_eq, z_sq, Option.bind_some, z_lits, z_n_add, z_n_mul, z_lt, z_le, z_eq, z_ne1, z_1ne, z_lt1, z_1lt, z_ltT, z_ltF, z_leT, z_leF, z_eqF, z_b_0, z_b_1, ↓reduceIte, eq_self, not_true_eq_false, not_false_eq_true, and_true, true_and, and_false, false_and, Nat.add_zero, Nat.zero_add]
      · rw [z_ups ha, z_ups ha]; exact xa a ha
      · rw [z_up_e, if_neg (by decide), z_up_e, if_neg (by decide), x1, t2]
      · rw [z_uj_r ha]; exact ja a ha
      · rw [z_up_e, if_neg (by decide), z_up_s]
      · rw [z_up_s]
      · rw [z_up_e, if_neg (by decide), z_up_e, if_neg (by decide), x4]
      · rw [z_uj_s]
    · simp only [if_neg q1]
      have g := q1
      unfold k_lt at g
      rw [decide_eq_true_eq] at g
      have cf : ∀ σ : q_H, f_Rs_isFrom (z_n 97) (z_n (T.2 (k_b T p))) (z_n 122) σ = some (z_n 0, σ) := fun σ => by rw [C_isFrom, z_b_f (fun e => g ((k_f3 97 122 r2 (by omega) (by omega)).mp e))]
      by_cases q2 : k_dg (T.2 (k_b T p)) = true
      · simp only [if_pos q2]
        have g2 := q2
        unfold k_dg at g2
        rw [decide_eq_true_eq] at g2
        have cf2 : ∀ σ : q_H, f_Rs_isFrom (z_n 48) (z_n (T.2 (k_b T p))) (z_n 57) σ = some (z_n 1, σ) := fun σ => by rw [C_isFrom, z_b_t ((k_f3 48 57 r2 (by omega) (by omega)).mpr g2)]
        refine ⟨z_up (z_up X 9 2 (z_n (k_b T p + k_rn T k_dg (k_b T p)))) 9 3 (z_n (if 4 < k_rn T k_dg (k_b T p) then 4 else 2)), z_uj Z 9 5 (z_z (k_dv T (k_b T p) (k_rn T k_dg (k_b T p)) : Nat)), ?_, fun a ha => ?_, ?_, fun a ha => ?_, ?_, ?_, ?_, ?_⟩
        · simp (disch := omega) only [f_Ta_advance, sk, z_Tar hS hP, z_Taw hS, x0, hX, hZ, x1, x2, q', r1, cf, cf2, ob9, tn, or_true, true_or, or_false, false_or, z_b_T, z_b_F, Bool.false_eq_true, Classical.not_not, decide_eq_true_eq, z_sq, Option.bind_some, z_lits, z_n_add, z_n_mul, z_lt, z_le, z_eq, z_ne1, z_1ne, z_lt1, z_1lt, z_ltT, z_ltF, z_leT, z_leF, z_eqF, z_b_0, z_b_1, ↓reduceIte, eq_self, not_true_eq_false, not_false_eq_true, and_true, true_and, and_false, false_and, Nat.add_zero, Nat.zero_add]
        · rw [z_ups ha, z_ups ha]; exact xa a ha
        · rw [z_up_e, if_neg (by decide), z_up_e, if_neg (by decide), x1, t2]
        · rw [z_uj_r ha]; exact ja a ha
        · rw [z_up_e, if_neg (by decide), z_up_s]
        · rw [z_up_s]
        · rw [z_up_e, if_neg (by decide), z_up_e, if_neg (by decide), x4]
        · rw [z_uj_s]
      · simp only [if_neg q2]
        have g2 := q2
        unfold k_dg at g2
        rw [decide_eq_true_eq] at g2
        have cf2 : ∀ σ : q_H, f_Rs_isFrom (z_n 48) (z_n (T.2 (k_b T p))) (z_n 57) σ = some (z_n 0, σ) := fun σ => by rw [C_isFrom, z_b_f (fun e => g2 ((k_f3 48 57 r2 (by omega) (by omega)).mp e))]
        obtain ⟨r, s1, s2⟩ := C_sig (J := z_uj Z 9 5 (z_n (T.2 (k_b T p))).toInt64) (n := n) hS hP hc' r2
        have ef : ∀ v, z_up X 9 3 v 9 2 = z_n (k_b T p) := fun v => by rw [z_up_e, if_neg (by decide), x2]
        have fin : ∀ v, (∀ a, a ≠ 9 → z_up (z_up X 9 3 v) 9 2 (z_n (k_b T p + 1)) a = I a) ∧ z_up (z_up X 9 3 v) 9 2 (z_n (k_b T p + 1)) 9 1 = I 9 1 ∧ z_up (z_up X 9 3 v) 9 2 (z_n (k_b T p + 1)) 9 3 = v ∧ z_up (z_up X 9 3 v) 9 2 (z_n (k_b T p + 1)) 9 4 = z_n (k_b T p) := by
          intro v
          refine ⟨fun a ha => by rw [z_ups ha, z_ups ha]; exact xa a ha, ?_, ?_, ?_⟩
          · rw [z_up_e, if_neg (by decide), z_up_e, if_neg (by decide), x1, t2]
          · rw [z_up_e, if_neg (by decide), z_up_s]
          · rw [z_up_e, if_neg (by decide), z_up_e, if_neg (by decide), x4]
        by_cases q3 : k_sn (T.2 (k_b T p)) = true
        · simp only [if_pos q3]
          rw [q3] at s2
          have s3 : (r < z_n 0) = False := by rw [s2]; exact eq_false (by decide)
          obtain ⟨f1, f2, f3, f4⟩ := fin (z_n 3)
          refine ⟨z_up (z_up X 9 3 (z_n 3)) 9 2 (z_n (k_b T p + 1)), z_uj Z 9 5 (z_n (T.2 (k_b T p))).toInt64, ?_, f1, f2, fun a ha => by rw [z_uj_r ha]; exact ja a ha, z_up_s _ _ _ _, f3, f4, z_uj_s _ _ _ _⟩
          simp (disch := omega) only [f_Ta_advance, sk, z_Tar hS hP, z_Taw hS, x0, hX, hZ, x1, x2, q', r1, cf, cf2, ob4, s1, s3, ef, or_true, true_or, or_false, false_or, z_b_T, z_b_F, Bool.false_eq_true, Classical.not_not, decide_eq_true_eq, z_sq, Option.bind_some, z_lits, z_n_add, z_n_mul, z_lt, z_le, z_eq, z_ne1, z_1ne, z_lt1, z_1lt, z_ltT, z_ltF, z_leT, z_leF, z_eqF, z_b_0, z_b_1, ↓reduceIte, eq_self, not_true_eq_false, not_false_eq_true, and_true, true_and, and_false, false_and, Nat.add_zero, Nat.zero_add]
        · simp only [if_neg q3]
          have q3' : k_sn (T.2 (k_b T p)) = false := by simpa using q3
          rw [q3'] at s2
          have s3 : (r < z_n 0) = True := by rw [s2]; exact eq_true rfl
          obtain ⟨f1, f2, f3, f4⟩ := fin (z_n 4)
          refine ⟨z_up (z_up X 9 3 (z_n 4)) 9 2 (z_n (k_b T p + 1)), z_uj Z 9 5 (z_n (T.2 (k_b T p))).toInt64, ?_, f1, f2, fun a ha => by rw [z_uj_r ha]; exact ja a ha, z_up_s _ _ _ _, f3, f4, z_uj_s _ _ _ _⟩
          simp (disch := omega) only [f_Ta_advance, sk, z_Tar hS hP, z_Taw hS, x0, hX, hZ, x1, x2, q', r1, cf, cf2, ob4, s1, s3, ef, or_true, true_or, or_false, false_or, z_b_T, z_b_F, Bool.false_eq_true, Classical.not_not, decide_eq_true_eq, z_sq, Option.bind_some, z_lits, z_n_add, z_n_mul, z_lt, z_le, z_eq, z_ne1, z_1ne, z_lt1, z_1lt, z_ltT, z_ltF, z_leT, z_leF, z_eqF, z_b_0, z_b_1, ↓reduceIte, eq_self, not_true_eq_false, not_false_eq_true, and_true, true_and, and_false, false_and, Nat.add_zero, Nat.zero_add]
end
