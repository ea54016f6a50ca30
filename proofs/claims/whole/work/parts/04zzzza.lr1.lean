/-! LAW: the class's steps, pure. -/
theorem k_lits : ((10000 : Int32) = z_n 10000) ∧ ((20000 : Int32) = z_n 20000) ∧ ((20001 : Int32) = z_n 20001) ∧ ((20002 : Int32) = z_n 20002) ∧ ((20003 : Int32) = z_n 20003) ∧ ((20004 : Int32) = z_n 20004) ∧ ((20005 : Int32) = z_n 20005) ∧ ((20006 : Int32) = z_n 20006) ∧ ((20007 : Int32) = z_n 20007) ∧ ((20008 : Int32) = z_n 20008) ∧ ((4000 : Int32) = z_n 4000) := by decide
theorem k_dec (k : Nat) : z_n (k + 1) + -z_n 1 = z_n k := by rw [← Int32.sub_eq_add_neg, z_n_sub (by omega), Nat.add_sub_cancel]
theorem k_neg {c : Nat} (h : c < 10000) : (z_n c - z_n 10000 < z_n 0) = True := by
  apply eq_true
  rw [Int32.lt_iff_toInt_lt, Int32.toInt_sub, z_n_int (by omega), z_n_int (by omega), z_n_int (by omega), Int.bmod_eq_of_le (by omega) (by omega)]
  omega
/-- two values joined -/
def k_jn (o : Nat) (a b : Int32) : Int32 :=
  if o = 20002 then (if a = z_n 0 ∨ b = z_n 0 then z_n 0 else z_n 1)
  else if o = 20003 then (if a = z_n 0 ∧ b = z_n 0 then z_n 0 else z_n 1)
  else if o = 20004 then (if a < b then z_n 1 else z_n 0)
  else if o = 20005 then (if a = b then z_n 1 else z_n 0)
  else if o = 20006 then a + b else if o = 20007 then a - b else a * b
def k_nt (a : Int32) : Int32 := if a = z_n 0 then z_n 1 else z_n 0
def k_pv (v : l_V) (c : Nat) : Int32 := if 10000 ≤ c ∧ c < 10013 then v (c - 10000) else z_n c
def k_c1 (v : l_V) (c : Nat) : List Int32 → Option (List Int32)
  | [] => if c < 20000 then some [k_pv v c] else none
  | a :: r => if c = 20001 then some (k_nt a :: r) else if 20001 < c ∧ c < 20009 then (match r with | [] => none | b :: r' => some (k_jn c b a :: r'))
    else if c < 20000 ∧ r.length < 31 then some (k_pv v c :: a :: r) else none
theorem k_c1_n (v : l_V) (c : Nat) : k_c1 v c [] = if c < 20000 then some [k_pv v c] else none := rfl
theorem k_c1_c (v : l_V) (c : Nat) (a : Int32) (r : List Int32) : k_c1 v c (a :: r) = if c = 20001 then some (k_nt a :: r) else if 20001 < c ∧ c < 20009 then (match r with | [] => none | b :: r' => some (k_jn c b a :: r')) else if c < 20000 ∧ r.length < 31 then some (k_pv v c :: a :: r) else none := rfl
def k_cr (v : l_V) : List Nat → List Int32 → Option (List Int32)
  | [], st => some st
  | c :: r, st => (k_c1 v c st).bind (k_cr v r)
theorem k_cr_app (v : l_V) : ∀ (a b : List Nat) (st : List Int32), k_cr v (a ++ b) st = (k_cr v a st).bind (k_cr v b)
  | [], b, st => rfl
  | c :: r, b, st => by
    show (k_c1 v c st).bind (k_cr v (r ++ b)) = ((k_c1 v c st).bind (k_cr v r)).bind (k_cr v b)
    cases k_c1 v c st with
    | none => rfl
    | some x => exact k_cr_app v r b x
/-- the class's code of an expression, with its value; at most d wait -/
def k_ec (d : Nat) (cc : List Nat) (w : l_V → Int32) : Prop := ∀ v st, st.length + d ≤ 32 → k_cr v cc st = some (w v :: st)
theorem k_ec.mono {d e : Nat} {cc : List Nat} {w : l_V → Int32} (h : k_ec d cc w) (l : d ≤ e) : k_ec e cc w := fun v st hs => h v st (by omega)
theorem k_ec_pu {c : Nat} (hc : c < 20000) : k_ec 1 [c] (fun v => k_pv v c) := by
  intro v st hs
  show (k_c1 v c st).bind (k_cr v []) = _
  cases st with
  | nil => rw [k_c1_n, if_pos hc]; rfl
  | cons a r =>
    have : (a :: r).length = r.length + 1 := rfl
    rw [k_c1_c, if_neg (by omega), if_neg (by omega), if_pos ⟨hc, by omega⟩]; rfl
theorem k_ec_nt {d : Nat} {cc : List Nat} {w : l_V → Int32} (h : k_ec d cc w) : k_ec d (cc ++ [20001]) (fun v => k_nt (w v)) := by
  intro v st hs
  rw [k_cr_app, h v st hs]
  rfl
theorem k_ec_op {d o : Nat} {a b : List Nat} {w x : l_V → Int32} (ho : 20001 < o ∧ o < 20009) (h : k_ec (d + 1) a w) (g : k_ec d b x) : k_ec (d + 1) (a ++ b ++ [o]) (fun v => k_jn o (w v) (x v)) := by
  intro v st hs
  have : (w v :: st).length = st.length + 1 := rfl
  rw [k_cr_app, k_cr_app, h v st hs, Option.bind_some, g v _ (by omega), Option.bind_some]
  show (k_c1 v o (x v :: w v :: st)).bind (k_cr v []) = _
  rw [k_c1_c, if_neg (by omega), if_pos ho]
  rfl
/-- the stack's row -/
def k_sk (X : Nat → Int32) : List Int32 → Prop
  | [] => True
  | a :: r => X r.length = a ∧ k_sk X r
theorem k_sk_up {I : z_MI} {t i : Nat} {v : Int32} : ∀ {st : List Int32}, k_sk (I t) st → st.length ≤ i → k_sk (z_up I t i v t) st
  | [], _, _ => trivial
  | a :: r, h, hi => by
    have : (a :: r).length = r.length + 1 := rfl
    exact ⟨by rw [z_up_i (by omega)]; exact h.1, k_sk_up h.2 (by omega)⟩
/-- the law's own rows -/
def k_la (S : z_SH) (P : z_MP) (q c t m : Nat) : Prop := S q = some (6, [2, 0, 0, 2]) ∧ P q 0 = some c ∧ P q 3 = some t ∧ S c = some (20, List.replicate m 0) ∧ S t = some (20, List.replicate 32 0) ∧ (8 ≤ t ∧ t ≠ q ∧ t ≠ c ∧ t ≠ 35) ∧ S 35 = some (20, List.replicate 13 0)
section
variable {S : z_SH} {I : z_MI} {J : z_MJ} {P : z_MP} {n : Nat × Nat} {q c t m : Nat} {v : l_V}
set_option maxRecDepth 100000 in
set_option maxHeartbeats 4000000 in
theorem La_join {o : Nat} (ho : 20001 < o ∧ o < 20009) (a b : Int32) (σ : q_H) : f_La_joined (z_n o) a b σ = some (k_jn o a b, σ) := by
  have cs : o = 20002 ∨ o = 20003 ∨ o = 20004 ∨ o = 20005 ∨ o = 20006 ∨ o = 20007 ∨ o = 20008 := by omega
  rcases cs with rfl | rfl | rfl | rfl | rfl | rfl | rfl
  · by_cases ha : a = z_n 0 <;> by_cases hb : b = z_n 0 <;> simp (disch := omega) only [f_La_joined, k_jn, k_lits, ha, hb, or_true, true_or, or_false, false_or, z_b_T, z_b_F, Bool.false_eq_true, Classical.not_not, decide_eq_true_eq, z_sq, Option.bind_some, z_lits, z_n_add, z_n_mul, z_lt, z_le, z_eq, z_ne1, z_1ne, z_lt1, z_1lt, z_ltT, z_ltF, z_leT, z_leF, z_eqF, z_b_0, z_b_1, ↓reduceIte, eq_self, not_true_eq_false, not_false_eq_true, and_true, true_and, and_false, false_and, Nat.add_zero, Nat.zero_add]
  · by_cases ha : a = z_n 0 <;> by_cases hb : b = z_n 0 <;> simp (disch := omega) only [f_La_joined, k_jn, k_lits, ha, hb, or_true, true_or, or_false, false_or, z_b_T, z_b_F, Bool.false_eq_true, Classical.not_not, decide_eq_true_eq, z_sq, Option.bind_some, z_lits, z_n_add, z_n_mul, z_lt, z_le, z_eq, z_ne1, z_1ne, z_lt1, z_1lt, z_ltT, z_ltF, z_leT, z_leF, z_eqF, z_b_0, z_b_1, ↓reduceIte, eq_self, not_true_eq_false, not_false_eq_true, and_true, true_and, and_false, false_and, Nat.add_zero, Nat.zero_add]
  · by_cases ha : a < b <;> simp (disch := omega) only [f_La_joined, k_jn, k_lits, ha, or_true, true_or, or_false, false_or, z_b_T, z_b_F, Bool.false_eq_true, Classical.not_not, decide_eq_true_eq, z_sq, Option.bind_some, z_lits, z_n_add, z_n_mul, z_lt, z_le, z_eq, z_ne1, z_1ne, z_lt1, z_1lt, z_ltT, z_ltF, z_leT, z_leF, z_eqF, z_b_0, z_b_1, ↓reduceIte, eq_self, not_true_eq_false, not_false_eq_true, and_true, true_and, and_false, false_and, Nat.add_zero, Nat.zero_add]
  · by_cases ha : a = b <;> simp (disch := omega) only [f_La_joined, k_jn, k_lits, ha, or_true, true_or, or_false, false_or, z_b_T, z_b_F, Bool.false_eq_true, Classical.not_not, decide_eq_true_eq, z_sq, Option.bind_some, z_lits, z_n_add, z_n_mul, z_lt, z_le, z_eq, z_ne1, z_1ne, z_lt1, z_1lt, z_ltT, z_ltF, z_leT, z_leF, z_eqF, z_b_0, z_b_1, ↓reduceIte, eq_self, not_true_eq_false, not_false_eq_true, and_true, true_and, and_false, false_and, Nat.add_zero, Nat.zero_add]
  · simp (disch := omega) only [f_La_joined, k_jn, k_lits, or_true, true_or, or_false, false_or, z_b_T, z_b_F, Bool.false_eq_true, Classical.not_not, decide_eq_true_eq, z_sq, Option.bind_some, z_lits, z_n_add, z_n_mul, z_lt, z_le, z_eq, z_ne1, z_1ne, z_lt1, z_1lt, z_ltT, z_ltF, z_leT, z_leF, z_eqF, z_b_0, z_b_1, ↓reduceIte, eq_self, not_true_eq_false, not_false_eq_true, and_true, true_and, and_false, false_and, Nat.add_zero, Nat.zero_add]
  · simp (disch := omega) only [f_La_joined, k_jn, k_lits, or_true, true_or, or_false, false_or, z_b_T, z_b_F, Bool.false_eq_true, Classical.not_not, decide_eq_true_eq, z_sq, Option.bind_some, z_lits, z_n_add, z_n_mul, z_lt, z_le, z_eq, z_ne1, z_1ne, z_lt1, z_1lt, z_ltT, z_ltF, z_leT, z_leF, z_eqF, z_b_0, z_b_1, ↓reduceIte, eq_self, not_true_eq_false, not_false_eq_true, and_true, true_and, and_false, false_and, Nat.add_zero, Nat.zero_add]
  · simp (disch := omega) only [f_La_joined, k_jn, k_lits, or_true, true_or, or_false, false_or, z_b_T, z_b_F, Bool.false_eq_true, Classical.not_not, decide_eq_true_eq, z_sq, Option.bind_some, z_lits, z_n_add, z_n_mul, z_lt, z_le, z_eq, z_ne1, z_1ne, z_lt1, z_1lt, z_ltT, z_ltF, z_leT, z_leF, z_eqF, z_b_0, z_b_1, ↓reduceIte, eq_self, not_true_eq_false, not_false_eq_true, and_true, true_and, and_false, false_and, Nat.add_zero, Nat.zero_add]
set_option maxRecDepth 100000 in
set_option maxHeartbeats 4000000 in
theorem La_1 (b : k_la S P q c t m) {i z x : Nat} {st st' : List Int32} (hz : I q 1 = z_n z) (hm : z ≤ m) (m2 : m ≤ 1000) (hi : i < z) (hc : I c i = z_n x) (hv : ∀ j, j < 13 → I 35 j = v j) (hs : k_sk (I t) st) (hl : st.length ≤ 32) (h : k_c1 v x st = some st') : ∃ X, (∀ f, f_La_allows_L4 q 35 (f + 1) (z_n st.length) (z_n i) (z_h S I J P n) = f_La_allows_L4 q 35 f (z_n st'.length) (z_n (i + 1)) (z_h S X J P n)) ∧ (∀ a, a ≠ t → X a = I a) ∧ k_sk (X t) st' ∧ st'.length ≤ 32 := by
  obtain ⟨b1, b2, b3, b4, b5, ⟨b6, b7, b8, b9⟩, b10⟩ := b
  have rz : q_gi (q_gf (z_h S I J P n) 6 q 1) = some (z_n z) := by rw [z_gi b1 rfl, hz]
  have g0 : q_gr (q_gf (z_h S I J P n) 6 q 0) = some c := z_gr b1 rfl b2
  have g3 : q_gr (q_gf (z_h S I J P n) 6 q 3) = some t := z_gr b1 rfl b3
  have lc : q_len' (z_h S I J P n) c = some (z_n m) := z_len b4 (by decide) (by rw [List.length_replicate])
  have lt : q_len' (z_h S I J P n) t = some (z_n 32) := z_len b5 (by decide) (by rw [List.length_replicate])
  have l35 : q_len' (z_h S I J P n) 35 = some (z_n 13) := z_len b10 (by decide) (by rw [List.length_replicate])
  have rc : q_gi (q_ga (z_h S I J P n) 20 c (z_n i)) = some (z_n x) := by rw [z_gia b4 (by omega) (z_rpl (by omega)), hc]
  have rt : ∀ j, j < 32 → q_gi (q_ga (z_h S I J P n) 20 t (z_n j)) = some (I t j) := fun j hj => z_gia b5 (by omega) (z_rpl hj)
  have wt : ∀ j v, j < 32 → q_sa (z_h S I J P n) 20 t (z_n j) (.int v) = some (z_h S (z_up I t j v) J P n) := fun j v hj => z_sai b5 (by omega) (by omega) (z_rpl hj)
  have r35 : ∀ j, j < 13 → q_gi (q_ga (z_h S I J P n) 20 35 (z_n j)) = some (v j) := fun j hj => by rw [z_gia b10 (by omega) (z_rpl hj), hv j hj]
  have him : i < m := by omega
  have e0 : ∀ X j v a, a ≠ t → z_up X t j v a = X a := fun _ _ _ _ h => z_ups h
  -- a push
  have push : ∀ k, k < 32 → x < 20000 → ∀ f, f_La_allows_L4 q 35 (f + 1) (z_n k) (z_n i) (z_h S I J P n) = f_La_allows_L4 q 35 f (z_n (k + 1)) (z_n (i + 1)) (z_h S (z_up I t k (k_pv v x)) J P n) := by
    intro k hk hx f
    unfold k_pv
    have pre : f_La_allows_L4 q 35 (f + 1) (z_n k) (z_n i) (z_h S I J P n) = q_sq (f_Rs_isFrom (z_n 0) (z_n x - z_n 10000) (z_n 12) (z_h S I J P n)) fun x37 σ36 => if x37 = (0 : Int32) then ((q_sa σ36 20 t (z_n k) (.int (z_n x))).bind fun σ39 => f_La_allows_L4 q 35 f (z_n k + (1 : Int32)) (z_n i + (1 : Int32)) σ39) else ((q_gi (q_ga σ36 20 35 (z_n x - (10000 : Int32)))).bind fun x40 => (q_sa σ36 20 t (z_n k) (.int x40)).bind fun σ41 => f_La_allows_L4 q 35 f (z_n k + (1 : Int32)) (z_n i + (1 : Int32)) σ41) := by
      rw [f_La_allows_L4, rz, Option.bind_some, if_pos (by rw [z_lt (by omega) (by omega)]; exact hi), g0, Option.bind_some, lc, Option.bind_some, if_pos (by rw [z_lt (by omega) (by omega)]; exact him), Option.bind_some, rc, Option.bind_some, k_lits.2.1, if_neg (by rw [z_eq (by omega) (by omega)]; omega), k_lits.2.2.1, if_neg (by rw [z_eq (by omega) (by omega)]; omega), if_neg (by rw [z_lt (by omega) (by omega)]; omega), g3, Option.bind_some, lt, Option.bind_some, if_pos (by rw [z_lt (by omega) (by omega)]; exact hk), Option.bind_some, l35, Option.bind_some]
      rfl
    rw [pre, C_isFrom, z_sq]
    by_cases g : 10000 ≤ x
    · rw [z_n_sub g]
      by_cases g2 : x < 10013
      · rw [if_pos (show 10000 ≤ x ∧ x < 10013 from ⟨g, g2⟩), z_b_t (show ¬ z_n (x - 10000) < z_n 0 ∧ ¬ z_n 12 < z_n (x - 10000) from ⟨by rw [z_lt (by omega) (by omega)]; omega, by rw [z_lt (by omega) (by omega)]; omega⟩), if_neg (show ¬ z_n 1 = (0 : Int32) by decide), k_lits.1, z_n_sub g, r35 _ (by omega), Option.bind_some, wt _ _ hk, Option.bind_some]
        rw [show (1 : Int32) = z_n 1 from rfl, z_n_add, z_n_add]
      · rw [if_neg (show ¬ (10000 ≤ x ∧ x < 10013) from fun e => g2 e.2), z_b_f (fun e => e.2 (by rw [z_lt (by omega) (by omega)]; omega)), if_pos (show z_n 0 = (0 : Int32) from rfl), wt _ _ hk, Option.bind_some]
        rw [show (1 : Int32) = z_n 1 from rfl, z_n_add, z_n_add]
    · rw [if_neg (show ¬ (10000 ≤ x ∧ x < 10013) from fun e => g e.1), z_b_f (fun e => e.1 (by rw [k_neg (by omega)]; trivial)), if_pos (show z_n 0 = (0 : Int32) from rfl), wt _ _ hk, Option.bind_some]
      rw [show (1 : Int32) = z_n 1 from rfl, z_n_add, z_n_add]
  cases st with
  | nil =>
    rw [k_c1_n] at h
    by_cases hx : x < 20000
    · rw [if_pos hx] at h
      cases h
      exact ⟨_, push 0 (by omega) hx, fun a ha => e0 _ _ _ a ha, ⟨z_up_s _ _ _ _, trivial⟩, by show 1 ≤ 32; omega⟩
    · rw [if_neg hx] at h; cases h
  | cons a r =>
    have ll : (a :: r).length = r.length + 1 := rfl
    rw [ll] at hl ⊢
    rw [k_c1_c] at h
    have ra : I t r.length = a := hs.1
    by_cases x1 : x = 20001
    · rw [if_pos x1] at h
      cases h
      subst x1
      refine ⟨z_up I t r.length (k_nt a), fun f => ?_, fun a ha => e0 _ _ _ a ha, ⟨z_up_s _ _ _ _, k_sk_up hs.2 (Nat.le_refl _)⟩, hl⟩
      rw [f_La_allows_L4, rz, Option.bind_some, if_pos (by rw [z_lt (by omega) (by omega)]; exact hi), g0, Option.bind_some, lc, Option.bind_some, if_pos (by rw [z_lt (by omega) (by omega)]; exact him), Option.bind_some, rc, Option.bind_some, k_lits.2.1, if_neg (by rw [z_eq (by omega) (by omega)]; omega), k_lits.2.2.1, if_pos rfl, show (0 : Int32) = z_n 0 from rfl, if_pos (by rw [z_lt (by omega) (by omega)]; omega), g3, Option.bind_some, Option.bind_some, show (1 : Int32) = z_n 1 from rfl, z_n_sub (by omega), Nat.add_sub_cancel, rt _ (by omega), Option.bind_some, ra, z_n_add]
      unfold k_nt
      by_cases a0 : a = z_n 0
      · rw [if_pos a0, if_pos a0, wt _ _ (by omega), Option.bind_some]; rfl
      · rw [if_neg a0, if_neg a0, wt _ _ (by omega), Option.bind_some]; rfl
    · rw [if_neg x1] at h
      by_cases x2 : 20001 < x ∧ x < 20009
      · rw [if_pos x2] at h
        cases r with
        | nil => cases h
        | cons d r' =>
          cases h
          have l2 : (d :: r').length = r'.length + 1 := rfl
          rw [l2] at hl ra ⊢
          have rd : I t r'.length = d := hs.2.1
          refine ⟨z_up I t r'.length (k_jn x d a), fun f => ?_, fun a ha => e0 _ _ _ a ha, ⟨z_up_s _ _ _ _, k_sk_up hs.2.2 (Nat.le_refl _)⟩, by show r'.length + 1 ≤ 32; omega⟩
          rw [f_La_allows_L4, rz, Option.bind_some, if_pos (by rw [z_lt (by omega) (by omega)]; exact hi), g0, Option.bind_some, lc, Option.bind_some, if_pos (by rw [z_lt (by omega) (by omega)]; exact him), Option.bind_some, rc, Option.bind_some, k_lits.2.1, if_neg (by rw [z_eq (by omega) (by omega)]; omega), k_lits.2.2.1, if_neg (by rw [z_eq (by omega) (by omega)]; omega), if_pos (by rw [z_lt (by omega) (by omega)]; omega), show (1 : Int32) = z_n 1 from rfl, if_pos (by rw [z_lt (by omega) (by omega)]; omega), g3, Option.bind_some, Option.bind_some, k_dec, z_n_sub (by omega), Nat.add_sub_cancel, rt _ (by omega), Option.bind_some, Option.bind_some, rt _ (by omega), Option.bind_some, ra, rd, La_join x2, z_sq, wt _ _ (by omega), Option.bind_some, z_n_add]
          rfl
      · rw [if_neg x2] at h
        by_cases x3 : x < 20000 ∧ r.length < 31
        · rw [if_pos x3] at h
          cases h
          exact ⟨_, push (r.length + 1) (by omega) x3.1, fun a ha => e0 _ _ _ a ha, ⟨z_up_s _ _ _ _, k_sk_up hs (Nat.le_refl _)⟩, by show r.length + 1 + 1 ≤ 32; omega⟩
        · rw [if_neg x3] at h; cases h
end
