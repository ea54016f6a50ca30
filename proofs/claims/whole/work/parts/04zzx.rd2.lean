/-! READ: the class's small steps. -/
theorem k_wd_nz (T : k_T) (b : Nat) : ∀ i, i ≤ 8 → (∀ j, j < i → 97 ≤ T.2 (b + j) ∧ T.2 (b + j) ≤ 122) → ∃ v : Nat, v < 27 ^ i ∧ (0 < i → 0 < v) ∧ k_wd T b i = z_z (v : Nat)
  | 0, _, _ => ⟨0, by decide, fun h => absurd h (Nat.lt_irrefl _), rfl⟩
  | i + 1, hi, h => by
    obtain ⟨v, h1, h2, h3⟩ := k_wd_nz T b i (by omega) (fun j hj => h j (by omega))
    have h4 := h i (by omega)
    refine ⟨v * 27 + (T.2 (b + i) - 96), ?_, fun _ => by omega, ?_⟩
    · rw [Nat.pow_succ]; omega
    · rw [k_wd, h3, z_z32 (show T.2 (b + i) - 96 < 2147483648 by omega), show (27 : Int64) = z_z 27 from rfl, z_z_mul, z_z_add]
      congr 1
theorem k_vl_nz {T : k_T} {p : Nat} (hp : p ≤ T.1) (h : k_k T p = 1) : ¬ k_vl T p = 0 := by
  unfold k_k at h
  unfold k_vl
  by_cases q : k_b T p = T.1
  · rw [if_pos q] at h; cases h
  rw [if_neg q] at h ⊢
  by_cases q1 : k_lt (T.2 (k_b T p)) = true
  · rw [if_pos q1] at h ⊢
    by_cases q2 : 8 < k_rn T k_lt (k_b T p)
    · rw [if_pos q2] at h; cases h
    obtain ⟨v, h1, h2, h3⟩ := k_wd_nz T (k_b T p) (k_rn T k_lt (k_b T p)) (by omega) (fun j hj => by
      have := k_rn_in hj
      unfold k_lt at this
      exact of_decide_eq_true this)
    have pos : 0 < k_rn T k_lt (k_b T p) := by
      have := (k_b_le hp).2
      exact k_rn_pos (by omega) q1
    have : v < 27 ^ 8 := Nat.lt_of_lt_of_le h1 (Nat.pow_le_pow_right (by decide) (by omega))
    have p8 : (27 : Nat) ^ 8 = 282429536481 := rfl
    have h2 := h2 pos
    rw [h3, show (0 : Int64) = z_z 0 from rfl, z_z_eq (by omega) (by omega) (by omega) (by omega)]
    omega
  · rw [if_neg q1] at h
    split at h
    · split at h <;> cases h
    · split at h <;> cases h
/-- the reader's rows -/
def k_cl (S : z_SH) (P : z_MP) (r g : Nat) : Prop := z_ps S P g ∧ S r = some (7, [2, 2, 2]) ∧ P r 0 = some 9 ∧ P r 1 = some 11 ∧ P r 2 = some g ∧ 131 ≤ g
/-- what the reader reads -/
def k_st (I : z_MI) (J : z_MJ) (T : k_T) : Prop := k_cs I ∧ k_hd (I 9 1) (I 10) T ∧ (∀ i, i < 10 → J 11 i = k_w1.getD i 0) ∧ ∀ i, i < 8 → I 1 i = z_n (k_tb.getD i 0)
/-- what the reader leaves as it was -/
def k_fr (g : Nat) (I : z_MI) (J : z_MJ) (X : z_MI) (Z : z_MJ) : Prop := (∀ a, a ≠ 9 → (a < g ∨ g + 8 < a) → X a = I a ∧ Z a = J a) ∧ X 9 1 = I 9 1
theorem k_fr.trans {g : Nat} {I X X' : z_MI} {J Z Z' : z_MJ} (h : k_fr g I J X Z) (h' : k_fr g X Z X' Z') : k_fr g I J X' Z' :=
  ⟨fun a h1 h2 => ⟨((h'.1 a h1 h2).1).trans (h.1 a h1 h2).1, ((h'.1 a h1 h2).2).trans (h.1 a h1 h2).2⟩, h'.2.trans h.2⟩
theorem k_fr.st {g : Nat} {I X : z_MI} {J Z : z_MJ} {T : k_T} (h : k_fr g I J X Z) (hg : 131 ≤ g) (s : k_st I J T) : k_st X Z T := by
  obtain ⟨⟨s1, s2⟩, s3, s4, s5⟩ := s
  have e := fun a (h1 : a ≠ 9) (h2 : a < 131) => h.1 a h1 (by omega)
  refine ⟨⟨fun i hi => ?_, ?_⟩, ?_, fun i hi => ?_, fun i hi => ?_⟩
  · rw [(e 7 (by omega) (by omega)).1]; exact s1 i hi
  · rw [(e 4 (by omega) (by omega)).1]; exact s2
  · rw [h.2, (e 10 (by omega) (by omega)).1]; exact s3
  · rw [(e 11 (by omega) (by omega)).2]; exact s4 i hi
  · rw [(e 1 (by omega) (by omega)).1]; exact s5 i hi
section
variable {S : z_SH} {I : z_MI} {J : z_MJ} {P : z_MP} {K : Nat → Bool} {n : Nat × Nat} {T : k_T} {r g p : Nat} {D : z_D}
set_option maxRecDepth 100000 in
set_option maxHeartbeats 4000000 in
theorem C_fault (hS : z_St S) (k : I 9 4 = z_n (k_b T p)) (c : Nat) : f_Ta_fault 9 (z_n c) (z_h S I J P n) = some (z_n (k_fl T c p), z_h S I J P n) := by
  have r4 : q_gi (q_gf (z_h S I J P n) 1 9 4) = some (z_n (k_b T p)) := by rw [z_gi (s_9 hS) rfl, k]
  unfold f_Ta_fault k_fl
  rw [r4, Option.bind_some, show (16 : Int32) = z_n 16 from rfl, z_n_mul, z_n_add]
set_option maxRecDepth 100000 in
set_option maxHeartbeats 4000000 in
theorem C_isName (hS : z_St S) (hP : z_Pt P) (h : k_cl S P r g) (s : k_st I J T) (k : k_C T p I J) : f_Sr_isName r (z_h S I J P n) = some (z_b (k_nm T p = true), z_h S I J P n) := by
  obtain ⟨-, h1, h2, h3, -⟩ := h
  have w := C_wordIn (n := n) (w := k_w1) hS hP (s_11 hS) (by decide) (fun i hi => s.2.2.1 i hi) k
  have r0 : q_gr (q_gf (z_h S I J P n) 7 r 0) = some 9 := z_gr h1 rfl h2
  have r1 : q_gr (q_gf (z_h S I J P n) 7 r 1) = some 11 := z_gr h1 rfl h3
  have o9 := z_ob (I := I) (J := J) (P := P) (n := n) (s_9 hS)
  have r3 : q_gi (q_gf (z_h S I J P n) 1 9 3) = some (z_n (k_k T p)) := by rw [z_gi (s_9 hS) rfl, k.2.1]
  have le := k_ix_le T k_w1 p
  have l10 : k_w1.length = 10 := rfl
  rw [l10] at w le
  have kk : k_k T p ≤ 4 := by unfold k_k; repeat (first | omega | split)
  unfold k_nm
  by_cases q : k_k T p = 1
  · by_cases q2 : k_ix T k_w1 p < 10
    · rw [if_pos q2] at w
      have q3 : ¬ k_ix T k_w1 p = 10 := by omega
      generalize k_ix T k_w1 p = x at *
      simp (disch := omega) only [f_Sr_isName, r0, r1, o9, r3, w, q, q3, or_true, true_or, or_false, false_or, z_b_T, z_b_F, Bool.false_eq_true, Classical.not_not, decide_eq_true_eq, z_sq, Option.bind_some, z_lits, z_n_add, z_n_mul, z_lt, z_le, z_eq, z_ne1, z_1ne, z_lt1, z_1lt, z_ltT, z_ltF, z_leT, z_leF, z_eqF, z_b_0, z_b_1, ↓reduceIte, eq_self, not_true_eq_false, not_false_eq_true, and_true, true_and, and_false, false_and, Nat.add_zero, Nat.zero_add]
    · rw [if_neg q2] at w
      have q3 : k_ix T k_w1 p = 10 := by omega
      generalize k_ix T k_w1 p = x at *
      simp (disch := omega) only [f_Sr_isName, r0, r1, o9, r3, w, q, q3, or_true, true_or, or_false, false_or, z_b_T, z_b_F, Bool.false_eq_true, Classical.not_not, decide_eq_true_eq, z_sq, Option.bind_some, z_lits, z_n_add, z_n_mul, z_lt, z_le, z_eq, z_ne1, z_1ne, z_lt1, z_1lt, z_ltT, z_ltF, z_leT, z_leF, z_eqF, z_b_0, z_b_1, ↓reduceIte, eq_self, not_true_eq_false, not_false_eq_true, and_true, true_and, and_false, false_and, Nat.add_zero, Nat.zero_add]
  · simp (disch := omega) only [f_Sr_isName, r0, r3, q, or_true, true_or, or_false, false_or, z_b_T, z_b_F, Bool.false_eq_true, Classical.not_not, decide_eq_true_eq, z_sq, Option.bind_some, z_lits, z_n_add, z_n_mul, z_lt, z_le, z_eq, z_ne1, z_1ne, z_lt1, z_1lt, z_ltT, z_ltF, z_leT, z_leF, z_eqF, z_b_0, z_b_1, ↓reduceIte, eq_self, not_true_eq_false, not_false_eq_true, and_true, true_and, and_false, false_and, Nat.add_zero, Nat.zero_add]
set_option maxRecDepth 100000 in
set_option maxHeartbeats 4000000 in
theorem C_hasWife (h : z_ps S P g) (hd : z_pd I J g D) (hD : D.1 ≤ 12) (m : Nat) : f_Pa_hasWife g (z_n m) (z_h S I J P n) = some (z_b (d_wed D m = true), z_h S I J P n) := by
  have hle := z_ff_le (fun i => decide (D.2.1 2 i = z_n m)) D.1
  have r1 := z_ps_r h
  have sz := hd.sz
  have key := z_run (r := some ((if z_ff (fun i => decide (D.2.1 2 i = z_n m)) D.1 < D.1 then Sum.inl (z_n 1) else Sum.inr ()), z_h S I J P n)) (fun f k => f_Pa_hasWife_L2 g (z_n m) f (z_n k) (z_h S I J P n)) (z_ff (fun i => decide (D.2.1 2 i = z_n m)) D.1) (by omega)
    (by
      intro f j hj
      have hjc : j < D.1 := by omega
      have no := of_decide_eq_false (z_ff_no _ _ _ hj)
      have na := (hd.2.2 j hjc).2.2.2.1
      rw [← na] at no
      simp (disch := omega) only [f_Pa_hasWife_L2, r1, sz, hjc, no, or_true, true_or, or_false, false_or, z_b_T, z_b_F, Bool.false_eq_true, Classical.not_not, decide_eq_true_eq, z_sq, Option.bind_some, z_lits, z_n_add, z_n_mul, z_lt, z_le, z_eq, z_ne1, z_1ne, z_lt1, z_1lt, z_ltT, z_ltF, z_leT, z_leF, z_eqF, z_b_0, z_b_1, ↓reduceIte, eq_self, not_true_eq_false, not_false_eq_true, and_true, true_and, and_false, false_and, Nat.add_zero, Nat.zero_add])
    (by
      intro f
      by_cases hs : z_ff (fun i => decide (D.2.1 2 i = z_n m)) D.1 < D.1
      · rw [if_pos hs]
        have is := of_decide_eq_true (z_ff_is _ _ hs)
        have na := (hd.2.2 _ hs).2.2.2.1
        rw [is] at na
        generalize z_ff (fun i => decide (D.2.1 2 i = z_n m)) D.1 = j at *
        simp (disch := omega) only [f_Pa_hasWife_L2, r1, sz, hs, na, or_true, true_or, or_false, false_or, z_b_T, z_b_F, Bool.false_eq_true, Classical.not_not, decide_eq_true_eq, z_sq, Option.bind_some, z_lits, z_n_add, z_n_mul, z_lt, z_le, z_eq, z_ne1, z_1ne, z_lt1, z_1lt, z_ltT, z_ltF, z_leT, z_leF, z_eqF, z_b_0, z_b_1, ↓reduceIte, eq_self, not_true_eq_false, not_false_eq_true, and_true, true_and, and_false, false_and, Nat.add_zero, Nat.zero_add]
      · rw [if_neg hs]
        have hc' : z_ff (fun i => decide (D.2.1 2 i = z_n m)) D.1 = D.1 := by omega
        rw [hc']
        simp (disch := omega) only [f_Pa_hasWife_L2, r1, sz, Nat.lt_irrefl, or_true, true_or, or_false, false_or, z_b_T, z_b_F, Bool.false_eq_true, Classical.not_not, decide_eq_true_eq, z_sq, Option.bind_some, z_lits, z_n_add, z_n_mul, z_lt, z_le, z_eq, z_ne1, z_1ne, z_lt1, z_1lt, z_ltT, z_ltF, z_leT, z_leF, z_eqF, z_b_0, z_b_1, ↓reduceIte, eq_self, not_true_eq_false, not_false_eq_true, and_true, true_and, and_false, false_and, Nat.add_zero, Nat.zero_add])
  unfold f_Pa_hasWife d_wed
  rw [show (0 : Int32) = z_n 0 from rfl, key, z_sq]
  by_cases hs : z_ff (fun i => decide (D.2.1 2 i = z_n m)) D.1 < D.1
  · rw [if_pos hs, z_b_t (decide_eq_true hs)]
  · rw [if_neg hs, z_b_f (by rw [decide_eq_true_eq]; exact hs)]
end
