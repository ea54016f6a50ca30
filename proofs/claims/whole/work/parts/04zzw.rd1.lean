/-! READ: the pure parser; the class's small steps. -/
abbrev k_O : Type := Nat ⊕ (Nat × z_D)
def k_ix (T : k_T) (w : List Int64) (p : Nat) : Nat := z_ff (fun i => decide (k_k T p = 1) && decide (w.getD i 0 = k_vl T p)) w.length
def k_nm (T : k_T) (p : Nat) : Bool := decide (k_k T p = 1 ∧ k_ix T k_w1 p = 10)
def k_is (T : k_T) (p c : Nat) : Bool := decide (k_k T p = 3 ∧ T.2 (k_b T p) = c)
def d_si (D : z_D) (k l : Nat) (v : Int32) : z_D := (D.1, fun k' l' => if k' = k ∧ l' = l then v else D.2.1 k' l', D.2.2)
def d_sj (D : z_D) (k l : Nat) (v : Int64) : z_D := (D.1, D.2.1, fun k' l' => if k' = k ∧ l' = l then v else D.2.2 k' l')
/-- a line begins -/
def d_hd (D : z_D) (sx a : Int32) (x : Int64) : z_D := (D.1, fun k l => if l = D.1 then (if k = 0 then sx else if k = 1 then a else if k = 4 then z_n 0 else -z_n 1) else D.2.1 k l, fun k l => if l = D.1 then (if k = 0 then x else 0) else D.2.2 k l)
/-- a tag stands already -/
def d_sn (D : z_D) (l t : Nat) : Bool :=
  if t = 0 then decide (¬ D.2.2 1 l = 0) else if t = 1 then decide (¬ D.2.2 2 l = 0) else if t = 2 then decide (¬ D.2.1 2 l = -z_n 1) else if t = 3 then decide (¬ D.2.1 3 l = -z_n 1) else decide ((D.2.1 4 l).toNatClampNeg / 2 ^ (t - 4) % 2 = 1)
def d_wed (D : z_D) (m : Nat) : Bool := decide (z_ff (fun i => decide (D.2.1 2 i = z_n m)) D.1 < D.1)
def k_fl (T : k_T) (k p : Nat) : Nat := k + 16 * k_b T p
/-- a name behind a tag: q its token -/
def k_take (T : k_T) (q t : Nat) (D : z_D) : k_O :=
  if t = 0 then .inr (k_e T q, d_sj D 1 D.1 (k_vl T q)) else if t = 1 then .inr (k_e T q, d_sj D 2 D.1 (k_vl T q))
  else if ¬ d_nm (k_vl T q) D < D.1 ∨ (t = 2 ∧ ¬ D.2.1 0 (d_nm (k_vl T q) D) = z_n 0) then .inl (k_fl T 2 q)
  else if t = 3 then .inr (k_e T q, d_si D 3 D.1 (z_n (d_nm (k_vl T q) D)))
  else if d_wed D (d_nm (k_vl T q) D) = true then .inl (k_fl T 3 q)
  else .inr (k_e T q, d_si D 2 D.1 (z_n (d_nm (k_vl T q) D)))
/-- a tag: p its token -/
def k_tag (T : k_T) (p t : Nat) (D : z_D) : k_O :=
  if d_sn D D.1 t = true then .inl (k_fl T 3 p)
  else if (D.2.1 0 D.1 = z_n 0 ∧ (t = 2 ∨ t = 3)) ∨ (t = 4 ∧ ¬ d_sn D D.1 3 = true) then .inl (k_fl T 6 p)
  else if 3 < t then .inr (k_e T p, d_si D 4 D.1 (z_n ((D.2.1 4 D.1).toNatClampNeg + 2 ^ (t - 4))))
  else if k_nm T (k_e T p) = true then k_take T (k_e T p) t D else .inl (k_fl T 1 (k_e T p))
def k_tags (T : k_T) : Nat → Nat → z_D → k_O
  | 0, p, _ => .inl (k_fl T 3 p)
  | f + 1, p, D => if k_is T p 59 = true then .inr (k_e T p, D) else if k_ix T k_w1 p < 8 then
      (match k_tag T p (k_ix T k_w1 p) D with | .inl F => .inl F | .inr (p', D') => k_tags T f p' D') else .inl (k_fl T 1 p)
/-- a line's head: p the token of man or woman -/
def k_head (T : k_T) (p : Nat) (sx : Int32) (D : z_D) : k_O :=
  if ¬ k_nm T (k_e T p) = true then .inl (k_fl T 1 (k_e T p))
  else if d_nm (k_vl T (k_e T p)) D < D.1 then .inl (k_fl T 3 (k_e T p))
  else if ¬ k_k T (k_e T (k_e T p)) = 2 then .inl (k_fl T 1 (k_e T (k_e T p)))
  else if z_z 120 < k_vl T (k_e T (k_e T p)) then .inl (k_fl T 4 (k_e T (k_e T p)))
  else .inr (k_e T (k_e T (k_e T p)), d_hd D sx (k_vl T (k_e T (k_e T p))).toInt32 (k_vl T (k_e T p)))
def k_all (T : k_T) : Nat → Nat → z_D → k_O
  | 0, p, D => .inr (p, D)
  | f + 1, p, D => if k_k T p = 0 then .inr (p, D) else if ¬ (k_ix T k_w1 p = 8 ∨ k_ix T k_w1 p = 9) then .inl (k_fl T 1 p) else if D.1 = 12 then .inl (k_fl T 5 p) else
      (match k_head T p (if k_ix T k_w1 p = 9 then z_n 1 else z_n 0) D with
        | .inl F => .inl F
        | .inr (p', D') => (match k_tags T 9 p' D' with
          | .inl F => .inl F
          | .inr (p2, D2) => k_all T f p2 (D2.1 + 1, D2.2)))
section
variable {S : z_SH} {I : z_MI} {J : z_MJ} {P : z_MP} {K : Nat → Bool} {n : Nat × Nat} {T : k_T}
theorem k_ix_le (T : k_T) (w : List Int64) (p : Nat) : k_ix T w p ≤ w.length := z_ff_le _ _
set_option maxRecDepth 100000 in
set_option maxHeartbeats 4000000 in
theorem C_wordIn {c p : Nat} {w : List Int64} (hS : z_St S) (hP : z_Pt P) (hc : S c = some (21, List.replicate w.length 1)) (hw : w.length ≤ 18) (hj : ∀ i, i < w.length → J c i = w.getD i 0) (k : k_C T p I J) : f_Ta_wordIn 9 c (z_h S I J P n) = some ((if k_ix T w p < w.length then z_n (k_ix T w p) else -z_n 1), z_h S I J P n) := by
  obtain ⟨-, k3, -, k5⟩ := k
  have len : ∀ I J, q_len' (z_h S I J P n) c = some (z_n w.length) := fun _ _ => z_len hc (by decide) (by rw [List.length_replicate])
  have rd : ∀ i, i < w.length → q_gl' (q_ga (z_h S I J P n) 21 c (z_n i)) = some (w.getD i 0) := fun i hi => by rw [z_gla hc (by omega) (z_rpl hi), hj i hi]
  have le := k_ix_le T w p
  have r3 : q_gi (q_gf (z_h S I J P n) 1 9 3) = some (z_n (k_k T p)) := by rw [z_gi (s_9 hS) rfl, k3]
  have r5 : q_gl' (q_gf (z_h S I J P n) 1 9 5) = some (k_vl T p) := by rw [z_gl (s_9 hS) rfl, k5]
  have kk : k_k T p ≤ 4 := by unfold k_k; repeat (first | omega | split)
  have key : f_Ta_wordIn_L2 9 c q_FU (z_n 0) (z_h S I J P n) = some ((if k_ix T w p < w.length then Sum.inl (z_n (k_ix T w p)) else Sum.inr ()), z_h S I J P n) := by
    by_cases q : k_k T p = 1
    · have e : k_ix T w p = z_ff (fun i => decide (w.getD i 0 = k_vl T p)) w.length := by
        unfold k_ix
        rw [decide_eq_true q]
        rfl
      rw [e]
      have r5' := r5
      generalize k_vl T p = y at *
      have le' := z_ff_le (fun i => decide (w.getD i 0 = y)) w.length
      refine z_run (fun m i => f_Ta_wordIn_L2 9 c m (z_n i) (z_h S I J P n)) (z_ff (fun i => decide (w.getD i 0 = y)) w.length) (by omega) ?_ ?_
      · intro m i hi
        have no := of_decide_eq_false (z_ff_no _ _ _ hi)
        have hl : i < w.length := by omega
        have rdi := rd i hl
        generalize w.getD i 0 = x at *
        simp (disch := omega) only [f_Ta_wordIn_L2, r3, r5, q, len, hl, rdi, no, or_true, true_or, or_false, false_or, z_b_T, z_b_F, Bool.false_eq_true, Classical.not_not, decide_eq_true_eq, z_sq, Option.bind_some, z_lits, z_n_add, z_n_mul, z_lt, z_le, z_eq, z_ne1, z_1ne, z_lt1, z_1lt, z_ltT, z_ltF, z_leT, z_leF, z_eqF, z_b_0, z_b_1, ↓reduceIte, eq_self, not_true_eq_false, not_false_eq_true, and_true, true_and, and_false, false_and, Nat.add_zero, Nat.zero_add]
      · intro m
        by_cases g : z_ff (fun i => decide (w.getD i 0 = y)) w.length < w.length
        · have yes := of_decide_eq_true (z_ff_is _ _ g)
          have rdi := rd _ g
          simp only [if_pos g]
          generalize z_ff (fun i => decide (w.getD i 0 = y)) w.length = i at *
          rw [yes] at rdi
          simp (disch := omega) only [f_Ta_wordIn_L2, r3, r5, q, len, g, rdi, or_true, true_or, or_false, false_or, z_b_T, z_b_F, Bool.false_eq_true, Classical.not_not, decide_eq_true_eq, z_sq, Option.bind_some, z_lits, z_n_add, z_n_mul, z_lt, z_le, z_eq, z_ne1, z_1ne, z_lt1, z_1lt, z_ltT, z_ltF, z_leT, z_leF, z_eqF, z_b_0, z_b_1, ↓reduceIte, eq_self, not_true_eq_false, not_false_eq_true, and_true, true_and, and_false, false_and, Nat.add_zero, Nat.zero_add]
        · have g' : z_ff (fun i => decide (w.getD i 0 = y)) w.length = w.length := by omega
          simp only [if_neg g]
          rw [g']
          simp (disch := omega) only [f_Ta_wordIn_L2, r3, q, len, Nat.lt_irrefl, or_true, true_or, or_false, false_or, z_b_T, z_b_F, Bool.false_eq_true, Classical.not_not, decide_eq_true_eq, z_sq, Option.bind_some, z_lits, z_n_add, z_n_mul, z_lt, z_le, z_eq, z_ne1, z_1ne, z_lt1, z_1lt, z_ltT, z_ltF, z_leT, z_leF, z_eqF, z_b_0, z_b_1, ↓reduceIte, eq_self, not_true_eq_false, not_false_eq_true, and_true, true_and, and_false, false_and, Nat.add_zero, Nat.zero_add]
    · have e : k_ix T w p = w.length := by
        unfold k_ix
        rcases Nat.lt_or_ge (k_ix T w p) w.length with h | h
        · have : (decide (k_k T p = 1) && decide (w.getD (k_ix T w p) 0 = k_vl T p)) = true := z_ff_is _ _ h
          rw [decide_eq_false q, Bool.false_and] at this
          cases this
        · exact Nat.le_antisymm le h
      rw [e, if_neg (Nat.lt_irrefl _), z_FU]
      rw [show (1000000 : Nat) = 999999 + 1 from rfl]
      generalize (999999 : Nat) = m
      simp (disch := omega) only [f_Ta_wordIn_L2, r3, q, or_true, true_or, or_false, false_or, z_b_T, z_b_F, Bool.false_eq_true, Classical.not_not, decide_eq_true_eq, z_sq, Option.bind_some, z_lits, z_n_add, z_n_mul, z_lt, z_le, z_eq, z_ne1, z_1ne, z_lt1, z_1lt, z_ltT, z_ltF, z_leT, z_leF, z_eqF, z_b_0, z_b_1, ↓reduceIte, eq_self, not_true_eq_false, not_false_eq_true, and_true, true_and, and_false, false_and, Nat.add_zero, Nat.zero_add]
  unfold f_Ta_wordIn
  rw [show (0 : Int32) = z_n 0 from rfl, key, z_sq]
  by_cases q : k_ix T w p < w.length
  · rw [if_pos q, if_pos q]
  · rw [if_neg q, if_neg q]; rfl
end
