/-! Tokens: pure; the class. -/
def k_bl (c : Nat) : Bool := decide (c = 10 ∨ c = 32)
def k_lt (c : Nat) : Bool := decide (97 ≤ c ∧ c ≤ 122)
def k_dg (c : Nat) : Bool := decide (48 ≤ c ∧ c ≤ 57)
def k_sn (c : Nat) : Bool := decide ((40 ≤ c ∧ c ≤ 43) ∨ c = 45 ∨ (59 ≤ c ∧ c ≤ 61))
def k_rn (T : k_T) (g : Nat → Bool) (b : Nat) : Nat := z_ff (fun j => !g (T.2 (b + j))) (T.1 - b)
/-- where a token begins; ends; what kind it is of; what it is worth -/
def k_b (T : k_T) (p : Nat) : Nat := p + k_rn T k_bl p
def k_e (T : k_T) (p : Nat) : Nat := if k_b T p = T.1 then T.1 else if k_lt (T.2 (k_b T p)) = true then k_b T p + k_rn T k_lt (k_b T p) else if k_dg (T.2 (k_b T p)) = true then k_b T p + k_rn T k_dg (k_b T p) else k_b T p + 1
def k_k (T : k_T) (p : Nat) : Nat := if k_b T p = T.1 then 0 else if k_lt (T.2 (k_b T p)) = true then (if 8 < k_rn T k_lt (k_b T p) then 4 else 1) else if k_dg (T.2 (k_b T p)) = true then (if 4 < k_rn T k_dg (k_b T p) then 4 else 2) else if k_sn (T.2 (k_b T p)) = true then 3 else 4
def k_wd (T : k_T) (b : Nat) : Nat → Int64
  | 0 => 0
  | i + 1 => k_wd T b i * 27 + (z_n (T.2 (b + i) - 96)).toInt64
def k_dv (T : k_T) (b : Nat) : Nat → Nat
  | 0 => 0
  | i + 1 => k_dv T b i * 10 + (T.2 (b + i) - 48)
def k_vl (T : k_T) (p : Nat) : Int64 := if k_b T p = T.1 then 0 else if k_lt (T.2 (k_b T p)) = true then k_wd T (k_b T p) (k_rn T k_lt (k_b T p)) else if k_dg (T.2 (k_b T p)) = true then z_z (k_dv T (k_b T p) (k_rn T k_dg (k_b T p)) : Nat) else (z_n (T.2 (k_b T p))).toInt64
theorem k_rn_le (T : k_T) (g : Nat → Bool) (b : Nat) : k_rn T g b ≤ T.1 - b := z_ff_le _ _
theorem k_rn_in {T : k_T} {g : Nat → Bool} {b i : Nat} (h : i < k_rn T g b) : g (T.2 (b + i)) = true := by
  have := z_ff_no _ _ _ h
  simpa using this
theorem k_rn_at {T : k_T} {g : Nat → Bool} {b : Nat} (h : b + k_rn T g b < T.1) : g (T.2 (b + k_rn T g b)) = false := by
  have := z_ff_is (fun j => !g (T.2 (b + j))) (T.1 - b) (by unfold k_rn at h; omega)
  unfold k_rn
  simpa using this
theorem k_rn_pos {T : k_T} {g : Nat → Bool} {b : Nat} (hb : b < T.1) (h : g (T.2 b) = true) : 0 < k_rn T g b := by
  by_cases e : k_rn T g b = 0
  · have := k_rn_at (T := T) (g := g) (b := b) (by omega)
    rw [e, Nat.add_zero, h] at this; cases this
  · omega
theorem k_b_le {T : k_T} {p : Nat} (hp : p ≤ T.1) : p ≤ k_b T p ∧ k_b T p ≤ T.1 := by
  have := k_rn_le T k_bl p
  unfold k_b; omega
theorem k_b_at {T : k_T} {p : Nat} (h : k_b T p < T.1) : k_bl (T.2 (k_b T p)) = false := k_rn_at h
theorem k_e_le {T : k_T} {p : Nat} (hp : p ≤ T.1) : k_b T p ≤ k_e T p ∧ k_e T p ≤ T.1 := by
  have h := k_b_le hp
  have h1 := k_rn_le T k_lt (k_b T p)
  have h2 := k_rn_le T k_dg (k_b T p)
  unfold k_e
  split
  · omega
  · split
    · omega
    · split <;> omega
theorem k_e_lt {T : k_T} {p : Nat} (hp : p ≤ T.1) (hk : ¬ k_b T p = T.1) : k_b T p < k_e T p := by
  have h := k_b_le hp
  unfold k_e
  rw [if_neg hk]
  split
  · rename_i h1
    have := k_rn_pos (T := T) (show k_b T p < T.1 by omega) h1
    omega
  · split
    · rename_i h1
      have := k_rn_pos (T := T) (show k_b T p < T.1 by omega) h1
      omega
    · omega
theorem z_up_up (I : z_MI) (a i : Nat) (v w : Int32) : z_up (z_up I a i v) a i w = z_up I a i w := by
  funext b j
  unfold z_up
  split <;> rfl
theorem z_uj_uj (I : z_MJ) (a i : Nat) (v w : Int64) : z_uj (z_uj I a i v) a i w = z_uj I a i w := by
  funext b j
  unfold z_uj
  split <;> rfl
theorem z_up_id {I : z_MI} {a i : Nat} {v : Int32} (h : I a i = v) : z_up I a i v = I := by
  funext b j
  unfold z_up
  split
  · rename_i e; rw [e.1, e.2, h]
  · rfl
theorem z_uj_id {I : z_MJ} {a i : Nat} {v : Int64} (h : I a i = v) : z_uj I a i v = I := by
  funext b j
  unfold z_uj
  split
  · rename_i e; rw [e.1, e.2, h]
  · rfl
section
variable {S : z_SH} {I : z_MI} {J : z_MJ} {P : z_MP} {K : Nat → Bool} {n : Nat × Nat} {T : k_T}
theorem k_hd.r {x : Int32} {r : Nat → Int32} (h : k_hd x r T) {i : Nat} (hi : i < T.1) : r i = z_n (T.2 i) ∧ T.2 i ≤ 126 := by
  have := (h.2.2 i hi).2
  exact ⟨(h.2.2 i hi).1, by omega⟩
set_option maxRecDepth 100000 in
set_option maxHeartbeats 4000000 in
theorem C_skip (hS : z_St S) (hP : z_Pt P) (ht : k_hd (I 9 1) (I 10) T) {p : Nat} (hp : p ≤ T.1) (h2 : I 9 2 = z_n p) : f_Ta_advance_L0 9 q_FU (z_h S I J P n) = some ((), z_h S (z_up I 9 2 (z_n (k_b T p))) J P n) := by
  have le := k_rn_le T k_bl p
  have t1 := ht.1
  have t2 := ht.2.1
  have e1 : ∀ v, z_up I 9 2 v 9 1 = z_n T.1 := fun v => by rw [z_up_e, if_neg (by decide)]; exact t2
  have e2 : ∀ v, z_up I 9 2 v 9 2 = v := fun v => z_up_s _ _ _ _
  have e3 : ∀ v, z_up I 9 2 v 10 = I 10 := fun v => z_ups (by decide)
  have h := z_run (fun m i => f_Ta_advance_L0 9 m (z_h S (z_up I 9 2 (z_n (p + i))) J P n)) (k_rn T k_bl p) (r := some ((), z_h S (z_up I 9 2 (z_n (k_b T p))) J P n)) (by omega)
    (by
      intro m i hi
      have g := k_rn_in hi
      unfold k_bl at g
      rw [decide_eq_true_eq] at g
      obtain ⟨r1, r2⟩ := ht.r (i := p + i) (by omega)
      rcases g with g | g
      · rw [g] at r1
        have lt : p + i < T.1 := by omega
        simp (disch := omega) only [f_Ta_advance_L0, z_Tar hS hP, z_Taw hS, e1, e2, e3, r1, lt, z_up_up, or_true, true_or, or_false, false_or, z_b_T, z_b_F, Bool.false_eq_true, Classical.not_not, decide_eq_true_eq, z_sq, Option.bind_some, z_lits, z_n_add, z_n_mul, z_lt, z_le, z_eq, z_ne1, z_1ne, z_lt1, z_1lt, z_ltT, z_ltF, z_leT, z_leF, z_eqF, z_b_0, z_b_1, ↓reduceIte, eq_self, not_true_eq_false, not_false_eq_true, and_true, true_and, and_false, false_and, Nat.add_zero, Nat.zero_add, Nat.add_assoc]
      · rw [g] at r1
        have lt : p + i < T.1 := by omega
        simp (disch := omega) only [f_Ta_advance_L0, z_Tar hS hP, z_Taw hS, e1, e2, e3, r1, lt, z_up_up, or_true, true_or, or_false, false_or, z_b_T, z_b_F, Bool.false_eq_true, Classical.not_not, decide_eq_true_eq, z_sq, Option.bind_some, z_lits, z_n_add, z_n_mul, z_lt, z_le, z_eq, z_ne1, z_1ne, z_lt1, z_1lt, z_ltT, z_ltF, z_leT, z_leF, z_eqF, z_b_0, z_b_1, ↓reduceIte, eq_self, not_true_eq_false, not_false_eq_true, and_true, true_and, and_false, false_and, Nat.add_zero, Nat.zero_add, Nat.add_assoc])
    (by
      intro m
      have eb : p + k_rn T k_bl p = k_b T p := rfl
      rw [eb]
      by_cases q : k_b T p < T.1
      · have g := k_b_at q
        unfold k_bl at g
        rw [decide_eq_false_iff_not] at g
        obtain ⟨r1, r2⟩ := ht.r q
        have g1 : ¬ T.2 (k_b T p) = 10 := fun e => g (Or.inl e)
        have g2 : ¬ T.2 (k_b T p) = 32 := fun e => g (Or.inr e)
        simp (disch := omega) only [f_Ta_advance_L0, z_Tar hS hP, e1, e2, e3, r1, q, g1, g2, or_true, true_or, or_false, false_or, z_b_T, z_b_F, Bool.false_eq_true, Classical.not_not, decide_eq_true_eq, z_sq, Option.bind_some, z_lits, z_n_add, z_n_mul, z_lt, z_le, z_eq, z_ne1, z_1ne, z_lt1, z_1lt, z_ltT, z_ltF, z_leT, z_leF, z_eqF, z_b_0, z_b_1, ↓reduceIte, eq_self, not_true_eq_false, not_false_eq_true, and_true, true_and, and_false, false_and, Nat.add_zero, Nat.zero_add]
      · have hb := (k_b_le hp).2
        simp (disch := omega) only [f_Ta_advance_L0, z_Tar hS hP, e1, e2, e3, q, or_true, true_or, or_false, false_or, z_b_T, z_b_F, Bool.false_eq_true, Classical.not_not, decide_eq_true_eq, z_sq, Option.bind_some, z_lits, z_n_add, z_n_mul, z_lt, z_le, z_eq, z_ne1, z_1ne, z_lt1, z_1lt, z_ltT, z_ltF, z_leT, z_leF, z_eqF, z_b_0, z_b_1, ↓reduceIte, eq_self, not_true_eq_false, not_false_eq_true, and_true, true_and, and_false, false_and, Nat.add_zero, Nat.zero_add])
  simp only [Nat.add_zero] at h
  rw [z_up_id h2] at h
  exact h
theorem k_f3 {c : Nat} (a b : Nat) (hc : c ≤ 126) (ha : a < 1000) (hb : b < 1000) : (¬ z_n c < z_n a ∧ ¬ z_n b < z_n c) ↔ (a ≤ c ∧ c ≤ b) := by
  rw [z_lt (by omega) (by omega), z_lt (by omega) (by omega)]
  omega
set_option maxRecDepth 100000 in
set_option maxHeartbeats 4000000 in
theorem C_takeW (hS : z_St S) (hP : z_Pt P) (ht : k_hd (I 9 1) (I 10) T) {b : Nat} (hb : b ≤ T.1) (h2 : I 9 2 = z_n b) (h4 : I 9 4 = z_n b) (h5 : J 9 5 = 0) : f_Ta_takeWord 9 (z_h S I J P n) = some ((), z_h S (z_up (z_up I 9 2 (z_n (b + k_rn T k_lt b))) 9 3 (z_n (if 8 < k_rn T k_lt b then 4 else 1))) (z_uj J 9 5 (k_wd T b (k_rn T k_lt b))) P n) := by
  have le := k_rn_le T k_lt b
  have t1 := ht.1
  have t2 := ht.2.1
  have e1 : ∀ v, z_up I 9 2 v 9 1 = z_n T.1 := fun v => by rw [z_up_e, if_neg (by decide)]; exact t2
  have e2 : ∀ v, z_up I 9 2 v 9 2 = v := fun v => z_up_s _ _ _ _
  have e4 : ∀ v, z_up I 9 2 v 9 4 = z_n b := fun v => by rw [z_up_e, if_neg (by decide)]; exact h4
  have e3 : ∀ v, z_up I 9 2 v 10 = I 10 := fun v => z_ups (by decide)
  have e5 : ∀ v, z_uj J 9 5 v 9 5 = v := fun v => z_uj_s _ _ _ _
  have h := z_run (fun m i => f_Ta_takeWord_L0 9 m (z_h S (z_up I 9 2 (z_n (b + i))) (z_uj J 9 5 (k_wd T b i)) P n)) (k_rn T k_lt b) (r := some ((), z_h S (z_up I 9 2 (z_n (b + k_rn T k_lt b))) (z_uj J 9 5 (k_wd T b (k_rn T k_lt b))) P n)) (by omega)
    (by
      intro m i hi
      have g := k_rn_in hi
      unfold k_lt at g
      rw [decide_eq_true_eq] at g
      obtain ⟨r1, r2⟩ := ht.r (i := b + i) (by omega)
      have lt : b + i < T.1 := by omega
      have k3 := (k_f3 97 122 r2 (by omega) (by omega)).mpr g
      have es : z_n (T.2 (b + i)) - z_n 97 + z_n 1 = z_n (T.2 (b + i) - 96) := by rw [z_n_sub (by omega), z_n_add]; congr 1; omega
      rw [k_wd]
      generalize k_wd T b i = w
      have cf : ∀ σ : q_H, f_Rs_isFrom (z_n 97) (z_n (T.2 (b + i))) (z_n 122) σ = some (z_n 1, σ) := fun σ => by rw [C_isFrom, z_b_t k3]
      simp (disch := omega) only [f_Ta_takeWord_L0, f_Ta_longer, z_Tar hS hP, z_Taw hS, e1, e2, e3, e5, r1, lt, cf, es, z_up_up, z_uj_uj, or_true, true_or, or_false, false_or, z_b_T, z_b_F, Bool.false_eq_true, Classical.not_not, decide_eq_true_eq, z_sq, Option.bind_some, z_lits, z_n_add, z_n_mul, z_lt, z_le, z_eq, z_ne1, z_1ne, z_lt1, z_1lt, z_ltT, z_ltF, z_leT, z_leF, z_eqF, z_b_0, z_b_1, ↓reduceIte, eq_self, not_true_eq_false, not_false_eq_true, and_true, true_and, and_false, false_and, Nat.add_zero, Nat.zero_add, Nat.add_assoc])
    (by
      intro m
      by_cases q : b + k_rn T k_lt b < T.1
      · have g := k_rn_at q
        unfold k_lt at g
        rw [decide_eq_false_iff_not] at g
        obtain ⟨r1, r2⟩ := ht.r q
        have k3 : ¬ (¬ z_n (T.2 (b + k_rn T k_lt b)) < z_n 97 ∧ ¬ z_n 122 < z_n (T.2 (b + k_rn T k_lt b))) := fun e => g ((k_f3 97 122 r2 (by omega) (by omega)).mp e)
        generalize k_wd T b (k_rn T k_lt b) = w
        generalize b + k_rn T k_lt b = c at *
        have cf : ∀ σ : q_H, f_Rs_isFrom (z_n 97) (z_n (T.2 c)) (z_n 122) σ = some (z_n 0, σ) := fun σ => by rw [C_isFrom, z_b_f k3]
        simp (disch := omega) only [f_Ta_takeWord_L0, z_Tar hS hP, e1, e2, e3, r1, q, cf, or_true, true_or, or_false, false_or, z_b_T, z_b_F, Bool.false_eq_true, Classical.not_not, decide_eq_true_eq, z_sq, Option.bind_some, z_lits, z_n_add, z_n_mul, z_lt, z_le, z_eq, z_ne1, z_1ne, z_lt1, z_1lt, z_ltT, z_ltF, z_leT, z_leF, z_eqF, z_b_0, z_b_1, ↓reduceIte, eq_self, not_true_eq_false, not_false_eq_true, and_true, true_and, and_false, false_and, Nat.add_zero, Nat.zero_add]
      · simp (disch := omega) only [f_Ta_takeWord_L0, z_Tar hS hP, e1, e2, e3, q, or_true, true_or, or_false, false_or, z_b_T, z_b_F, Bool.false_eq_true, Classical.not_not, decide_eq_true_eq, z_sq, Option.bind_some, z_lits, z_n_add, z_n_mul, z_lt, z_le, z_eq, z_ne1, z_1ne, z_lt1, z_1lt, z_ltT, z_ltF, z_leT, z_leF, z_eqF, z_b_0, z_b_1, ↓reduceIte, eq_self, not_true_eq_false, not_false_eq_true, and_true, true_and, and_false, false_and, Nat.add_zero, Nat.zero_add])
  simp only [Nat.add_zero] at h
  rw [z_up_id h2] at h
  have hj : z_uj J 9 5 (k_wd T b 0) = J := z_uj_id h5
  rw [hj] at h
  have es : z_n (b + k_rn T k_lt b) - z_n b = z_n (k_rn T k_lt b) := by rw [z_n_sub (by omega), Nat.add_sub_cancel_left]
  by_cases q : 8 < k_rn T k_lt b
  · simp (disch := omega) only [f_Ta_takeWord, h, z_Tar hS hP, z_Taw hS, e2, e4, es, q, or_true, true_or, or_false, false_or, z_b_T, z_b_F, Bool.false_eq_true, Classical.not_not, decide_eq_true_eq, z_sq, Option.bind_some, z_lits, z_n_add, z_n_mul, z_lt, z_le, z_eq, z_ne1, z_1ne, z_lt1, z_1lt, z_ltT, z_ltF, z_leT, z_leF, z_eqF, z_b_0, z_b_1, ↓reduceIte, eq_self, not_true_eq_false, not_false_eq_true, and_true, true_and, and_false, false_and, Nat.add_zero, Nat.zero_add]
  · simp (disch := omega) only [f_Ta_takeWord, h, z_Tar hS hP, z_Taw hS, e2, e4, es, q, or_true, true_or, or_false, false_or, z_b_T, z_b_F, Bool.false_eq_true, Classical.not_not, decide_eq_true_eq, z_sq, Option.bind_some, z_lits, z_n_add, z_n_mul, z_lt, z_le, z_eq, z_ne1, z_1ne, z_lt1, z_1lt, z_ltT, z_ltF, z_leT, z_leF, z_eqF, z_b_0, z_b_1, ↓reduceIte, eq_self, not_true_eq_false, not_false_eq_true, and_true, true_and, and_false, false_and, Nat.add_zero, Nat.zero_add]
set_option maxRecDepth 100000 in
set_option maxHeartbeats 4000000 in
theorem C_takeN (hS : z_St S) (hP : z_Pt P) (ht : k_hd (I 9 1) (I 10) T) {b : Nat} (hb : b ≤ T.1) (h2 : I 9 2 = z_n b) (h4 : I 9 4 = z_n b) (h5 : J 9 5 = 0) : f_Ta_takeNumber 9 (z_h S I J P n) = some ((), z_h S (z_up (z_up I 9 2 (z_n (b + k_rn T k_dg b))) 9 3 (z_n (if 4 < k_rn T k_dg b then 4 else 2))) (z_uj J 9 5 (z_z (k_dv T b (k_rn T k_dg b) : Nat))) P n) := by
  have le := k_rn_le T k_dg b
  have t1 := ht.1
  have t2 := ht.2.1
  have e1 : ∀ v, z_up I 9 2 v 9 1 = z_n T.1 := fun v => by rw [z_up_e, if_neg (by decide)]; exact t2
  have e2 : ∀ v, z_up I 9 2 v 9 2 = v := fun v => z_up_s _ _ _ _
  have e4 : ∀ v, z_up I 9 2 v 9 4 = z_n b := fun v => by rw [z_up_e, if_neg (by decide)]; exact h4
  have e3 : ∀ v, z_up I 9 2 v 10 = I 10 := fun v => z_ups (by decide)
  have e5 : ∀ v, z_uj J 9 5 v 9 5 = v := fun v => z_uj_s _ _ _ _
  have h := z_run (fun m i => f_Ta_takeNumber_L0 9 m (z_h S (z_up I 9 2 (z_n (b + i))) (z_uj J 9 5 (z_z (k_dv T b i : Nat))) P n)) (k_rn T k_dg b) (r := some ((), z_h S (z_up I 9 2 (z_n (b + k_rn T k_dg b))) (z_uj J 9 5 (z_z (k_dv T b (k_rn T k_dg b) : Nat))) P n)) (by omega)
    (by
      intro m i hi
      have g := k_rn_in hi
      unfold k_dg at g
      rw [decide_eq_true_eq] at g
      obtain ⟨r1, r2⟩ := ht.r (i := b + i) (by omega)
      have lt : b + i < T.1 := by omega
      have k3 := (k_f3 48 57 r2 (by omega) (by omega)).mpr g
      have es : z_n (T.2 (b + i)) - z_n 48 = z_n (T.2 (b + i) - 48) := z_n_sub (by omega)
      have ev : z_z (k_dv T b i : Nat) * (10 : Int64) + (z_n (T.2 (b + i) - 48)).toInt64 = z_z (k_dv T b (i + 1) : Nat) := by
        rw [z_z32 (by omega), show (10 : Int64) = z_z 10 from rfl, z_z_mul, z_z_add]
        congr 1
      generalize z_z (k_dv T b (i + 1) : Nat) = w' at *
      generalize z_z (k_dv T b i : Nat) = w at *
      have cf : ∀ σ : q_H, f_Rs_isFrom (z_n 48) (z_n (T.2 (b + i))) (z_n 57) σ = some (z_n 1, σ) := fun σ => by rw [C_isFrom, z_b_t k3]
      simp (disch := omega) only [f_Ta_takeNumber_L0, z_Tar hS hP, z_Taw hS, e1, e2, e3, e5, r1, lt, cf, es, ev, z_up_up, z_uj_uj, or_true, true_or, or_false, false_or, z_b_T, z_b_F, Bool.false_eq_true, Classical.not_not, decide_eq_true_eq, z_sq, Option.bind_some, z_lits, z_n_add, z_n_mul, z_lt, z_le, z_eq, z_ne1, z_1ne, z_lt1, z_1lt, z_ltT, z_ltF, z_leT, z_leF, z_eqF, z_b_0, z_b_1, ↓reduceIte, eq_self, not_true_eq_false, not_false_eq_true, and_true, true_and, and_false, false_and, Nat.add_zero, Nat.zero_add, Nat.add_assoc])
    (by
      intro m
      by_cases q : b + k_rn T k_dg b < T.1
      · have g := k_rn_at q
        unfold k_dg at g
        rw [decide_eq_false_iff_not] at g
        obtain ⟨r1, r2⟩ := ht.r q
        have k3 : ¬ (¬ z_n (T.2 (b + k_rn T k_dg b)) < z_n 48 ∧ ¬ z_n 57 < z_n (T.2 (b + k_rn T k_dg b))) := fun e => g ((k_f3 48 57 r2 (by omega) (by omega)).mp e)
        generalize z_z (k_dv T b (k_rn T k_dg b) : Nat) = w
        generalize b + k_rn T k_dg b = c at *
        have cf : ∀ σ : q_H, f_Rs_isFrom (z_n 48) (z_n (T.2 c)) (z_n 57) σ = some (z_n 0, σ) := fun σ => by rw [C_isFrom, z_b_f k3]
        simp (disch := omega) only [f_Ta_takeNumber_L0, z_Tar hS hP, e1, e2, e3, r1, q, cf, or_true, true_or, or_false, false_or, z_b_T, z_b_F, Bool.false_eq_true, Classical.not_not, decide_eq_true_eq, z_sq, Option.bind_some, z_lits, z_n_add, z_n_mul, z_lt, z_le, z_eq, z_ne1, z_1ne, z_lt1, z_1lt, z_ltT, z_ltF, z_leT, z_leF, z_eqF, z_b_0, z_b_1, ↓reduceIte, eq_self, not_true_eq_false, not_false_eq_true, and_true, true_and, and_false, false_and, Nat.add_zero, Nat.zero_add]
      · simp (disch := omega) only [f_Ta_takeNumber_L0, z_Tar hS hP, e1, e2, e3, q, or_true, true_or, or_false, false_or, z_b_T, z_b_F, Bool.false_eq_true, Classical.not_not, decide_eq_true_eq, z_sq, Option.bind_some, z_lits, z_n_add, z_n_mul, z_lt, z_le, z_eq, z_ne1, z_1ne, z_lt1, z_1lt, z_ltT, z_ltF, z_leT, z_leF, z_eqF, z_b_0, z_b_1, ↓reduceIte, eq_self, not_true_eq_false, not_false_eq_true, and_true, true_and, and_false, false_and, Nat.add_zero, Nat.zero_add])
  simp only [Nat.add_zero] at h
  rw [z_up_id h2] at h
  have hj : z_uj J 9 5 (z_z (k_dv T b 0 : Nat)) = J := z_uj_id h5
  rw [hj] at h
  have es : z_n (b + k_rn T k_dg b) - z_n b = z_n (k_rn T k_dg b) := by rw [z_n_sub (by omega), Nat.add_sub_cancel_left]
  by_cases q : 4 < k_rn T k_dg b
  · simp (disch := omega) only [f_Ta_takeNumber, h, z_Tar hS hP, z_Taw hS, e2, e4, es, q, or_true, true_or, or_false, false_or, z_b_T, z_b_F, Bool.false_eq_true, Classical.not_not, decide_eq_true_eq, z_sq, Option.bind_some, z_lits, z_n_add, z_n_mul, z_lt, z_le, z_eq, z_ne1, z_1ne, z_lt1, z_1lt, z_ltT, z_ltF, z_leT, z_leF, z_eqF, z_b_0, z_b_1, ↓reduceIte, eq_self, not_true_eq_false, not_false_eq_true, and_true, true_and, and_false, false_and, Nat.add_zero, Nat.zero_add]
  · simp (disch := omega) only [f_Ta_takeNumber, h, z_Tar hS hP, z_Taw hS, e2, e4, es, q, or_true, true_or, or_false, false_or, z_b_T, z_b_F, Bool.false_eq_true, Classical.not_not, decide_eq_true_eq, z_sq, Option.bind_some, z_lits, z_n_add, z_n_mul, z_lt, z_le, z_eq, z_ne1, z_1ne, z_lt1, z_1lt, z_ltT, z_ltF, z_leT, z_leF, z_eqF, z_b_0, z_b_1, ↓reduceIte, eq_self, not_true_eq_false, not_false_eq_true, and_true, true_and, and_false, false_and, Nat.add_zero, Nat.zero_add]
end
