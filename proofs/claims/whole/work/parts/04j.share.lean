/-! Counts one way and another; fractions of the class. -/
theorem z_sum2_add (f g : Nat → Nat → Nat) (k m : Nat) : (z_sum k fun q => z_sum m fun t => f q t + g q t) = (z_sum k fun q => z_sum m (f q)) + z_sum k fun q => z_sum m (g q) := by
  rw [← z_sum_add]
  exact z_sum_eq (fun q _ => z_sum_add (f q) (g q) m)
theorem d_pt (D : z_D) (w : Nat → Nat → Nat) (l : Nat) : (z_sum 5 fun q => z_sum 3 fun t => w q t * d_in D q t l) = if d_wf D l = true then w (d_so D l) (d_tk D l) else 0 := by
  unfold d_in
  have h1 := d_so_le D l
  have h2 := d_tk_le D l
  by_cases h : d_wf D l = true
  · generalize d_so D l = x at *
    generalize d_tk D l = y at *
    have hx : x = 0 ∨ x = 1 ∨ x = 2 ∨ x = 3 ∨ x = 4 := by omega
    have hy : y = 0 ∨ y = 1 ∨ y = 2 := by omega
    rcases hx with rfl | rfl | rfl | rfl | rfl <;> rcases hy with rfl | rfl | rfl <;> simp [z_sum, h]
  · simp [z_sum, h]
theorem d_split (D : z_D) (w : Nat → Nat → Nat) : ∀ k, (z_sum k fun l => if d_wf D l = true then w (d_so D l) (d_tk D l) else 0) = z_sum 5 fun q => z_sum 3 fun t => w q t * z_sum k (d_in D q t)
  | 0 => by simp [z_sum]
  | k + 1 => by
    rw [z_sum_s, d_split D w k, ← d_pt D w k, ← z_sum2_add]
    exact z_sum_eq (fun q _ => z_sum_eq (fun t _ => by rw [z_sum_s, Nat.mul_add]))
/-- which SORTS and how TAKEN IN are counted -/
def z_w (so tk : Int32) (q t : Nat) : Nat := if (so >>> (z_n q &&& z_n 31)) &&& z_n 1 = z_n 1 ∧ ¬ tk < z_n t then 1 else 0
theorem z_cs_D {I : z_MI} (J : z_MJ) (a b wo so tk : Int32) (s : Nat) : z_cs I J a b wo so tk s = if ¬ z_n s = wo ∧ z_ii I s a b = true then z_sum 5 fun q => z_sum 3 fun t => z_w so tk q t * d_ct (z_Ds I J s) q t else 0 := by
  unfold z_cs
  by_cases h : ¬ z_n s = wo ∧ z_ii I s a b = true
  · rw [if_pos h, if_pos h]
    have ht : z_th I s = true := by
      have := h.2
      unfold z_ii at this
      rw [Bool.and_eq_true] at this
      exact this.1
    have e := d_split (z_Ds I J s) (z_w so tk) (z_Ds I J s).1
    unfold d_ct
    rw [← e]
    refine z_sum_eq (fun l _ => ?_)
    unfold z_cl z_w
    rw [z_wf_D I J, z_so_D, z_tk_D, ht, Bool.true_and]
    by_cases hw : d_wf (z_Ds I J s) l = true
    · rw [if_pos hw]
      simp only [hw, true_and]
    · rw [if_neg hw, if_neg (fun e => hw e.1)]
  · rw [if_neg h, if_neg h]
theorem z_sum_lin (p : Nat → Bool) (w : Nat → Nat → Nat) (f : Nat → Nat → Nat → Nat) : ∀ N, (z_sum N fun s => if p s = true then z_sum 5 fun q => z_sum 3 fun t => w q t * f s q t else 0) = z_sum 5 fun q => z_sum 3 fun t => w q t * z_sum N fun s => if p s = true then f s q t else 0
  | 0 => by simp [z_sum]
  | N + 1 => by
    rw [z_sum_s, z_sum_lin p w f N]
    by_cases h : p N = true
    · rw [if_pos h, ← z_sum2_add]
      exact z_sum_eq (fun q _ => z_sum_eq (fun t _ => by rw [z_sum_s, if_pos h, Nat.mul_add]))
    · rw [if_neg h, Nat.add_zero]
      exact z_sum_eq (fun q _ => z_sum_eq (fun t _ => by rw [z_sum_s, if_neg h, Nat.add_zero]))
theorem z_co_ct (I : z_MI) (J : z_MJ) (a b so tk : Int32) : z_co I J a b (-z_n 1) so tk = z_sum 5 fun q => z_sum 3 fun t => z_w so tk q t * z_ct I J a b 24 q t := by
  have h := z_sum_lin (fun s => z_ii I s a b) (z_w so tk) (fun s => d_ct (z_Ds I J s)) 24
  refine Eq.trans ?_ h
  refine z_sum_eq (fun s hs => ?_)
  rw [z_cs_D]
  have : (¬ z_n s = -z_n 1) = True := by rw [z_ne1 (by omega)]; simp
  simp only [this, true_and]
theorem z_w_all : ∀ lv, lv < 3 → ∀ q, q < 5 → ∀ t, t < 3 → z_w (z_n 31) (z_n (2 - lv)) q t = if t < 3 - lv then 1 else 0 := by decide
theorem z_w_1 : ∀ lv, lv < 3 → ∀ q, q < 5 → ∀ t, t < 3 → z_w (z_n 1) (z_n (2 - lv)) q t = if t < 3 - lv ∧ q = 0 then 1 else 0 := by decide
theorem z_w_5 : ∀ lv, lv < 3 → ∀ q, q < 5 → ∀ t, t < 3 → z_w (z_n 5) (z_n (2 - lv)) q t = if t < 3 - lv ∧ (q = 0 ∨ q = 2) then 1 else 0 := by decide
theorem z_w_13 : ∀ lv, lv < 3 → ∀ q, q < 5 → ∀ t, t < 3 → z_w (z_n 13) (z_n (2 - lv)) q t = if t < 3 - lv ∧ (q = 0 ∨ q = 2 ∨ q = 3) then 1 else 0 := by decide
theorem z_w_so : ∀ x, x < 5 → ∀ q, q < 5 → ∀ t, t < 3 → z_w (z_n 1 <<< (z_n x &&& z_n 31)) (z_n 2) q t = if q = x then 1 else 0 := by decide
theorem z_s3 (c : Nat → Nat) : ∀ lv, lv < 3 → (z_sum 3 fun t => (if t < 3 - lv then 1 else 0) * c t) = z_sum (3 - lv) c := by
  intro lv h
  have : lv = 0 ∨ lv = 1 ∨ lv = 2 := by omega
  rcases this with rfl | rfl | rfl <;> simp [z_sum]
theorem z_s5 {f g : Nat → Nat} (h0 : f 0 = g 0) (h1 : f 1 = g 1) (h2 : f 2 = g 2) (h3 : f 3 = g 3) (h4 : f 4 = g 4) : z_sum 5 f = z_sum 5 g := by
  simp only [z_sum, h0, h1, h2, h3, h4]
theorem z_co_all (I : z_MI) (J : z_MJ) (a b : Int32) {lv : Nat} (h : lv < 3) : z_co I J a b (-z_n 1) (z_n 31) (z_n (2 - lv)) = z_sum 5 fun q => z_sum (3 - lv) (z_ct I J a b 24 q) := by
  rw [z_co_ct]
  refine z_sum_eq (fun q hq => ?_)
  rw [← z_s3 _ lv h]
  exact z_sum_eq (fun t ht => by rw [z_w_all lv h q hq t ht])
/-- the sorts of a how -/
def z_hw (how : Nat) : Nat := if how = 0 then 1 else if how = 1 then 5 else 13
theorem z_co_pick (I : z_MI) (J : z_MJ) (a b : Int32) {lv how : Nat} (h : lv < 3) (hh : how ≤ 2) : z_co I J a b (-z_n 1) (z_n (z_hw how)) (z_n (2 - lv)) = z_sum (3 - lv) (z_ct I J a b 24 0) + ((if 1 ≤ how then z_sum (3 - lv) (z_ct I J a b 24 2) else 0) + if 2 ≤ how then z_sum (3 - lv) (z_ct I J a b 24 3) else 0) := by
  rw [z_co_ct]
  have e : ∀ q, q < 5 → (z_sum 3 fun t => z_w (z_n (z_hw how)) (z_n (2 - lv)) q t * z_ct I J a b 24 q t) = if q = 0 ∨ (1 ≤ how ∧ q = 2) ∨ (2 ≤ how ∧ q = 3) then z_sum (3 - lv) (z_ct I J a b 24 q) else 0 := by
    intro q hq
    rw [← z_s3 _ lv h]
    have h3 : how = 0 ∨ how = 1 ∨ how = 2 := by omega
    have h5 : q = 0 ∨ q = 1 ∨ q = 2 ∨ q = 3 ∨ q = 4 := by omega
    rcases h3 with rfl | rfl | rfl
    · refine (z_sum_eq (fun t ht => by rw [show z_n (z_hw 0) = z_n 1 from rfl, z_w_1 lv h q hq t ht])).trans ?_
      rcases h5 with rfl | rfl | rfl | rfl | rfl <;> simp [z_sum]
    · refine (z_sum_eq (fun t ht => by rw [show z_n (z_hw 1) = z_n 5 from rfl, z_w_5 lv h q hq t ht])).trans ?_
      rcases h5 with rfl | rfl | rfl | rfl | rfl <;> simp [z_sum]
    · refine (z_sum_eq (fun t ht => by rw [show z_n (z_hw 2) = z_n 13 from rfl, z_w_13 lv h q hq t ht])).trans ?_
      rcases h5 with rfl | rfl | rfl | rfl | rfl <;> simp [z_sum]
  rw [z_sum_eq e]
  simp [z_sum, Nat.add_assoc]
theorem z_co_so (I : z_MI) (J : z_MJ) (a b : Int32) {x : Nat} (h : x < 5) : z_co I J a b (-z_n 1) (z_n 1 <<< (z_n x &&& z_n 31)) (z_n 2) = z_sum 3 (z_ct I J a b 24 x) := by
  rw [z_co_ct]
  have e : ∀ q, q < 5 → (z_sum 3 fun t => z_w (z_n 1 <<< (z_n x &&& z_n 31)) (z_n 2) q t * z_ct I J a b 24 q t) = if q = x then z_sum 3 (z_ct I J a b 24 q) else 0 := by
    intro q hq
    refine (z_sum_eq (fun t ht => by rw [z_w_so x h q hq t ht])).trans ?_
    by_cases k : q = x
    · rw [if_pos k]; simp [z_sum, k]
    · rw [if_neg k]; simp [z_sum, k]
  rw [z_sum_eq e]
  have : x = 0 ∨ x = 1 ∨ x = 2 ∨ x = 3 ∨ x = 4 := by omega
  rcases this with rfl | rfl | rfl | rfl | rfl <;> simp [z_sum]
/-! Ratio -/
section
variable {S : z_SH} {I : z_MI} {J : z_MJ} {P : z_MP} {K : Nat → Bool} {n : Nat × Nat}
set_option maxRecDepth 100000 in
set_option maxHeartbeats 4000000 in
theorem C_cd {x y : Nat} {σ : q_H} (hx : x ≤ 200000000000000000) (hy : y ≤ 200000000000000000) : f_Ra_commonDivisor (z_z x) (z_z y) σ = some (z_z (Nat.gcd x y : Nat), σ) := by
  have h : f_Ra_commonDivisor_L3 (999900 + 100) (z_z x) (z_z y) (z_n (100 - 100)) σ = some (z_z (Nat.gcd x y : Nat), σ) := z_eu' 100 (fun m x y => f_Ra_commonDivisor_L3 (999900 + m) (z_z x) (z_z y) (z_n (100 - m)) σ) (fun g => some (z_z (g : Nat), σ))
    (by
      intro m x hm
      show f_Ra_commonDivisor_L3 (999900 + m + 1) _ _ _ _ = _
      generalize 999900 + m = N
      have e : z_z ((0 : Nat) : Int) = 0 := rfl
      simp (disch := omega) only [f_Ra_commonDivisor_L3, e, or_true, true_or, or_false, false_or, z_b_T, z_b_F, Bool.false_eq_true, Classical.not_not, decide_eq_true_eq, z_sq, Option.bind_some, z_lits, z_n_add, z_n_mul, z_lt, z_le, z_eq, z_ne1, z_1ne, z_lt1, z_1lt, z_ltT, z_ltF, z_leT, z_leF, z_eqF, z_b_0, z_b_1, ↓reduceIte, eq_self, not_true_eq_false, not_false_eq_true, and_true, true_and, and_false, false_and, Nat.add_zero, Nat.zero_add])
    (by
      intro m x y hm hx hy h
      have e : ¬ z_z y = z_z 0 := by rw [z_z_eq (by omega) (by omega) (by omega) (by omega)]; omega
      show f_Ra_commonDivisor_L3 (999900 + m + 1) _ _ _ _ = f_Ra_commonDivisor_L3 (999900 + m) _ _ _ _
      generalize 999900 + m = N
      have e2 : 100 - (m + 1) + 1 = 100 - m := by omega
      simp (disch := omega) only [f_Ra_commonDivisor_L3, z_z0, e, z_zmod hx hy h, e2, or_true, true_or, or_false, false_or, z_b_T, z_b_F, Bool.false_eq_true, Classical.not_not, decide_eq_true_eq, z_sq, Option.bind_some, z_lits, z_n_add, z_n_mul, z_lt, z_le, z_eq, z_ne1, z_1ne, z_lt1, z_1lt, z_ltT, z_ltF, z_leT, z_leF, z_eqF, z_b_0, z_b_1, ↓reduceIte, eq_self, not_true_eq_false, not_false_eq_true, and_true, true_and, and_false, false_and, Nat.add_zero, Nat.zero_add])
    x y 100 hx hy (by omega) (Nat.le_refl _)
  rw [show 999900 + 100 = q_FU by rw [z_FU], Nat.sub_self] at h
  simp (disch := omega) only [f_Ra_commonDivisor, h, or_true, true_or, or_false, false_or, z_b_T, z_b_F, Bool.false_eq_true, Classical.not_not, decide_eq_true_eq, z_sq, Option.bind_some, z_lits, z_n_add, z_n_mul, z_lt, z_le, z_eq, z_ne1, z_1ne, z_lt1, z_1lt, z_ltT, z_ltF, z_leT, z_leF, z_eqF, z_b_0, z_b_1, ↓reduceIte, eq_self, not_true_eq_false, not_false_eq_true, and_true, true_and, and_false, false_and, Nat.add_zero, Nat.zero_add]
/-- a Ratio that stands -/
def z_rt (S : z_SH) (J : z_MJ) (r : Nat) (A : Int) (b : Nat) : Prop := S r = some (10, [1, 1]) ∧ J r 0 = z_z (A.tdiv (Nat.gcd A.natAbs b)) ∧ J r 1 = z_z ((b / Nat.gcd A.natAbs b : Nat))
theorem z_mk_ra : q_mk (z_h S I J P n) 10 [.long 0, .long 0] = z_h (z_us S n.1 (10, [1, 1])) (z_ri I n.1 fun _ => z_n 0) (z_rj J n.1 fun _ => 0) (z_rp P n.1 fun _ => none) (n.1 + 1, n.2 + 2) := by
  refine z_mk' (S := S) (I := I) (J := J) (P := P) (n := n) (t := 10) (vs := [Value.long 0, Value.long 0]) [1, 1] (f := fun _ => z_n 0) (g := fun _ => 0) (p := fun _ => none) rfl ?_
  intro i k hk
  match i, hk with
  | 0, hk => cases hk; rfl
  | 1, hk => cases hk; rfl
  | i + 2, hk => simp at hk
set_option maxRecDepth 100000 in
set_option maxHeartbeats 4000000 in
theorem C_Ra_init {A : Int} {b : Nat} (hA : A.natAbs ≤ 200000000000000000) (hb : b ≤ 200000000000000000) (h0 : 0 < b) (h8 : 8 ≤ n.1) : ∃ S' I' J' P', f_Ra_init n.1 (z_z A) (z_z b) (q_mk (z_h S I J P n) 10 [.long 0, .long 0]) = some ((), z_h S' I' J' P' (n.1 + 1, n.2 + 2)) ∧ z_ag n.1 z_nil S I J P S' I' J' P' ∧ z_rt S' J' n.1 A b := by
  have hg : 0 < Nat.gcd A.natAbs b := Nat.gcd_pos_of_pos_right _ h0
  have hg2 : Nat.gcd A.natAbs b ≤ b := Nat.gcd_le_right _ h0
  have e1 : (if (0 : Int64) < z_z A then z_z A else -z_z A) = z_z (A.natAbs : Nat) := by
    have k := z_z_lt (a := 0) (b := A) (by omega) (by omega) (by omega) (by omega)
    by_cases h : 0 < A
    · rw [if_pos (by rw [z_z0.1, k]; exact h)]; congr 1; omega
    · rw [if_neg (by rw [z_z0.1, k]; exact h), z_z_neg]; congr 1; omega
  have e2 : (if z_z (Nat.gcd A.natAbs b : Nat) < (1 : Int64) then (1 : Int64) else z_z (Nat.gcd A.natAbs b : Nat)) = z_z (Nat.gcd A.natAbs b : Nat) := by
    rw [if_neg]
    rw [z_z0.2, z_z_lt (by omega) (by omega) (by omega) (by omega)]
    omega
  have e3 : ¬ z_z (Nat.gcd A.natAbs b : Nat) = 0 := by rw [z_z0.1, z_z_eq (by omega) (by omega) (by omega) (by omega)]; omega
  have hs : (z_us S n.1 (10, [1, 1])) n.1 = some (10, [1, 1]) := z_us_s _ _ _
  unfold f_Ra_init
  rw [e1, C_cd (x := A.natAbs) hA hb, z_sq, e2, if_neg e3, z_mk_ra, z_sfl hs h8 rfl, Option.bind_some, if_neg e3, z_sfl hs h8 rfl, Option.bind_some, z_z_div (by omega) (by omega) (by omega) (by omega), z_z_div (by omega) (by omega) (by omega) (by omega)]
  refine ⟨_, _, _, _, rfl, fun a ha => ⟨⟨?_, ?_⟩, fun _ => ⟨?_, ?_⟩⟩, hs, ?_, ?_⟩
  · rw [z_us_a (by omega)]
  · rw [z_rp_a (by omega)]
  · rw [z_ri_a (by omega)]
  · rw [z_uj_r (by omega), z_uj_r (by omega), z_rj_a (by omega)]
  · rw [z_uj_i (by omega), z_uj_s]
  · rw [z_uj_s, Int.ofNat_tdiv]
-- Ratio.of
set_option maxRecDepth 100000 in
set_option maxHeartbeats 4000000 in
theorem C_Ra_of {A : Int} {b : Nat} (hA : A.natAbs ≤ 200000000000000000) (hb : b ≤ 200000000000000000) (h8 : 8 ≤ n.1) : ∃ r S' I' J' P' n', f_Ra_of (z_z A) (z_z b) (z_h S I J P n) = some (r, z_h S' I' J' P' n') ∧ z_ag n.1 z_nil S I J P S' I' J' P' ∧ (n.1 ≤ n'.1 ∧ n'.1 ≤ n.1 + 1 ∧ n'.2 ≤ n.2 + 2) ∧ ((b = 0 ∧ r = none) ∨ (0 < b ∧ ∃ x, r = some x ∧ n.1 ≤ x ∧ z_rt S' J' x A b)) := by
  unfold f_Ra_of q_ma
  have k := z_z_lt (a := 0) (b := b) (by omega) (by omega) (by omega) (by omega)
  by_cases h : b = 0
  · refine ⟨none, S, I, J, P, n, ?_, z_ag.refl _ _ _ _ _ _, ⟨by omega, by omega, by omega⟩, Or.inl ⟨h, rfl⟩⟩
    rw [if_neg]
    rw [z_z0.1, k]; omega
  · obtain ⟨S', I', J', P', h1, h2, h3⟩ := C_Ra_init (S := S) (I := I) (J := J) (P := P) (n := n) hA hb (by omega) h8
    refine ⟨some n.1, S', I', J', P', (n.1 + 1, n.2 + 2), ?_, h2, ⟨by simp, by simp, by simp⟩, Or.inr ⟨by omega, n.1, rfl, by omega, h3⟩⟩
    rw [if_pos (by rw [z_z0.1, k]; omega)]
    show q_sq (f_Ra_init n.1 _ _ _) (fun _ σ4 => some (some n.1, σ4)) = _
    rw [h1, z_sq]
-- Ratio.difference
set_option maxRecDepth 100000 in
set_option maxHeartbeats 4000000 in
theorem C_Ra_diff {a b c d : Nat} (ha : a ≤ 1000000) (hb : b ≤ 1000000) (hc : c ≤ 1000000) (hd : d ≤ 1000000) (h8 : 8 ≤ n.1) : ∃ r S' I' J' P' n', f_Ra_difference (z_z a) (z_z b) (z_z c) (z_z d) (z_h S I J P n) = some (r, z_h S' I' J' P' n') ∧ z_ag n.1 z_nil S I J P S' I' J' P' ∧ (n.1 ≤ n'.1 ∧ n'.1 ≤ n.1 + 1 ∧ n'.2 ≤ n.2 + 2) ∧ (((b = 0 ∨ d = 0) ∧ r = none) ∨ (0 < b ∧ 0 < d ∧ ∃ x, r = some x ∧ (n.1 ≤ x ∧ x < n'.1) ∧ z_rt S' J' x ((a * d : Nat) - (c * b : Nat)) (b * d))) := by
  unfold f_Ra_difference q_ma
  have k1 := z_z_lt (a := 0) (b := b) (by omega) (by omega) (by omega) (by omega)
  have k2 := z_z_lt (a := 0) (b := d) (by omega) (by omega) (by omega) (by omega)
  by_cases h1 : b = 0
  · refine ⟨none, S, I, J, P, n, ?_, z_ag.refl _ _ _ _ _ _, ⟨by omega, by omega, by omega⟩, Or.inl ⟨Or.inl h1, rfl⟩⟩
    rw [if_neg]
    rw [z_z0.1, k1]; omega
  · by_cases h2 : d = 0
    · refine ⟨none, S, I, J, P, n, ?_, z_ag.refl _ _ _ _ _ _, ⟨by omega, by omega, by omega⟩, Or.inl ⟨Or.inr h2, rfl⟩⟩
      rw [if_pos (by rw [z_z0.1, k1]; omega), if_neg]
      rw [z_z0.1, k2]; omega
    · have m1 : a * d ≤ 1000000 * 1000000 := Nat.mul_le_mul ha hd
      have m2 : c * b ≤ 1000000 * 1000000 := Nat.mul_le_mul hc hb
      have m3 : b * d ≤ 1000000 * 1000000 := Nat.mul_le_mul hb hd
      have m4 : 0 < b * d := Nat.mul_pos (by omega) (by omega)
      obtain ⟨S', I', J', P', g1, g2, g3⟩ := C_Ra_init (S := S) (I := I) (J := J) (P := P) (n := n) (A := (a * d : Nat) - (c * b : Nat)) (b := b * d) (by omega) (by omega) m4 h8
      refine ⟨some n.1, S', I', J', P', (n.1 + 1, n.2 + 2), ?_, g2, ⟨by simp, by simp, by simp⟩, Or.inr ⟨by omega, by omega, n.1, rfl, ⟨by omega, by simp⟩, g3⟩⟩
      rw [if_pos (by rw [z_z0.1, k1]; omega), if_pos (by rw [z_z0.1, k2]; omega)]
      have e1 : z_z a * z_z d - z_z c * z_z b = z_z ((a * d : Nat) - (c * b : Nat)) := by rw [z_z_mul, z_z_mul, z_z_sub]; rfl
      have e2 : z_z b * z_z d = z_z ((b * d : Nat)) := by rw [z_z_mul]; rfl
      rw [e1, e2]
      show q_sq (f_Ra_init n.1 _ _ _) (fun _ σ4 => some (some n.1, σ4)) = _
      rw [g1, z_sq]
/-- a part of a fraction -/
def z_pa (A : Int) (b : Nat) (what : Int32) : Int32 := if what = z_n 0 then (z_z (A.tdiv (Nat.gcd A.natAbs b))).toInt32 else if what = z_n 1 then z_n (b / Nat.gcd A.natAbs b) else -z_n 1
theorem z_wi1 {what : Int32} : z_wi what 1 = true ↔ what = z_n 0 ∨ what = z_n 1 := by
  rcases z_in what 1 (by omega) with ⟨k, hk, rfl⟩ | h
  · have : k = 0 ∨ k = 1 := by omega
    rw [z_wi_in hk (by omega)]
    rcases this with rfl | rfl <;> simp
  · rw [z_wi_o h]
    constructor
    · intro e; cases e
    · intro e
      exfalso
      rcases e with rfl | rfl
      · rcases h with h | h
        · rw [z_lt (by omega) (by omega)] at h; omega
        · rw [z_lt (by omega) (by omega)] at h; omega
      · rcases h with h | h
        · rw [z_lt (by omega) (by omega)] at h; omega
        · rw [z_lt (by omega) (by omega)] at h; omega
set_option maxRecDepth 100000 in
set_option maxHeartbeats 4000000 in
theorem C_partOf {r : Nat} {A : Int} {b : Nat} {what : Int32} (h : z_rt S J r A b) : f_Rs_partOf (some r) what (z_h S I J P n) = some (z_pa A b what, z_h S I J P n) := by
  obtain ⟨h1, h2, h3⟩ := h
  have r0 : q_gl' (q_gf (z_h S I J P n) 10 r 0) = some (J r 0) := z_gl h1 rfl
  have r1 : q_gl' (q_gf (z_h S I J P n) 10 r 1) = some (J r 1) := z_gl h1 rfl
  unfold f_Rs_partOf z_pa
  simp (disch := omega) only [C_wi, r0, r1, h2, h3, z_zton, z_wi1, or_true, true_or, or_false, false_or, z_b_T, z_b_F, Bool.false_eq_true, Classical.not_not, decide_eq_true_eq, z_sq, Option.bind_some, z_lits, z_n_add, z_n_mul, z_lt, z_le, z_eq, z_ne1, z_1ne, z_lt1, z_1lt, z_ltT, z_ltF, z_leT, z_leF, z_eqF, z_b_0, z_b_1, ↓reduceIte, eq_self, not_true_eq_false, not_false_eq_true, and_true, true_and, and_false, false_and, Nat.add_zero, Nat.zero_add]
  by_cases e0 : what = z_n 0
  · simp (disch := omega) only [e0, or_true, true_or, or_false, false_or, z_b_T, z_b_F, Bool.false_eq_true, Classical.not_not, decide_eq_true_eq, z_sq, Option.bind_some, z_lits, z_n_add, z_n_mul, z_lt, z_le, z_eq, z_ne1, z_1ne, z_lt1, z_1lt, z_ltT, z_ltF, z_leT, z_leF, z_eqF, z_b_0, z_b_1, ↓reduceIte, eq_self, not_true_eq_false, not_false_eq_true, and_true, true_and, and_false, false_and, Nat.add_zero, Nat.zero_add]
  · by_cases e1 : what = z_n 1
    · simp (disch := omega) only [e1, or_true, true_or, or_false, false_or, z_b_T, z_b_F, Bool.false_eq_true, Classical.not_not, decide_eq_true_eq, z_sq, Option.bind_some, z_lits, z_n_add, z_n_mul, z_lt, z_le, z_eq, z_ne1, z_1ne, z_lt1, z_1lt, z_ltT, z_ltF, z_leT, z_leF, z_eqF, z_b_0, z_b_1, ↓reduceIte, eq_self, not_true_eq_false, not_false_eq_true, and_true, true_and, and_false, false_and, Nat.add_zero, Nat.zero_add]
    · simp (disch := omega) only [e0, e1, or_true, true_or, or_false, false_or, z_b_T, z_b_F, Bool.false_eq_true, Classical.not_not, decide_eq_true_eq, z_sq, Option.bind_some, z_lits, z_n_add, z_n_mul, z_lt, z_le, z_eq, z_ne1, z_1ne, z_lt1, z_1lt, z_ltT, z_ltF, z_leT, z_leF, z_eqF, z_b_0, z_b_1, ↓reduceIte, eq_self, not_true_eq_false, not_false_eq_true, and_true, true_and, and_false, false_and, Nat.add_zero, Nat.zero_add]
theorem z_ra_pa {A : Int} {b : Nat} {what : Int32} (h : what = z_n 0 ∨ what = z_n 1) : (z_ra A b what).toInt32 = z_pa A b what := by
  unfold z_ra z_pa
  rcases h with rfl | rfl
  · rfl
  · simp (disch := omega) only [z_zton, or_true, true_or, or_false, false_or, z_b_T, z_b_F, Bool.false_eq_true, Classical.not_not, decide_eq_true_eq, z_sq, Option.bind_some, z_lits, z_n_add, z_n_mul, z_lt, z_le, z_eq, z_ne1, z_1ne, z_lt1, z_1lt, z_ltT, z_ltF, z_leT, z_leF, z_eqF, z_b_0, z_b_1, ↓reduceIte, eq_self, not_true_eq_false, not_false_eq_true, and_true, true_and, and_false, false_and, Nat.add_zero, Nat.zero_add]
end
