/-! What holds between calls: the base; the class's small methods. -/
/-- below n, but for X, nothing changed -/
def z_ag (n : Nat) (X : Nat → Bool) (S : z_SH) (I : z_MI) (J : z_MJ) (P : z_MP) (S' : z_SH) (I' : z_MI) (J' : z_MJ) (P' : z_MP) : Prop :=
  ∀ a, a < n → (S' a = S a ∧ P' a = P a) ∧ (X a = false → I' a = I a ∧ J' a = J a)
def z_nil : Nat → Bool := fun _ => false
theorem z_ag.refl (n : Nat) (X : Nat → Bool) (S : z_SH) (I : z_MI) (J : z_MJ) (P : z_MP) : z_ag n X S I J P S I J P := fun _ _ => ⟨⟨rfl, rfl⟩, fun _ => ⟨rfl, rfl⟩⟩
theorem z_ag.trans {n n' : Nat} {X : Nat → Bool} {S S' S2 : z_SH} {I I' I2 : z_MI} {J J' J2 : z_MJ} {P P' P2 : z_MP} (h : z_ag n X S I J P S' I' J' P') (hn : n ≤ n') (k : z_ag n' X S' I' J' P' S2 I2 J2 P2) : z_ag n X S I J P S2 I2 J2 P2 := by
  intro a ha
  obtain ⟨⟨h1, h3⟩, h2⟩ := h a ha
  obtain ⟨⟨k1, k3⟩, k2⟩ := k a (by omega)
  exact ⟨⟨k1.trans h1, k3.trans h3⟩, fun hx => ⟨(k2 hx).1.trans (h2 hx).1, (k2 hx).2.trans (h2 hx).2⟩⟩
theorem z_ag.wide {n : Nat} {X Y : Nat → Bool} {S S' : z_SH} {I I' : z_MI} {J J' : z_MJ} {P P' : z_MP} (h : z_ag n X S I J P S' I' J' P') (hy : ∀ a, a < n → Y a = false → X a = false) : z_ag n Y S I J P S' I' J' P' := fun a ha => ⟨(h a ha).1, fun q => (h a ha).2 (hy a ha q)⟩
/-- the reference's own rows -/
def z_iM (I : z_MI) (J : z_MJ) : Prop := z_lL I ∧ z_lV I ∧ (∀ s, s < 24 → d_ok (z_Ds I J s)) ∧
  (∀ s, s < 24 → (I 85 s = z_n 0 ∨ I 85 s = z_n 1) ∧ (I 86 s = z_n 0 ∨ I 86 s = z_n 1) ∧ (I 86 s = z_n 1 → I 85 s = z_n 1) ∧ (∃ c, I 88 s = z_n c ∧ c ≤ 7) ∧ ∃ m, I 89 s = z_n m ∧ m ≤ 20) ∧
  (∀ v, v < 6 → I 84 v = z_n 0 ∨ I 84 v = z_n 1) ∧ (∀ i, i < 68 → ∃ x, I 101 i = z_n x ∧ x ≤ 1000) ∧
  (∃ g, I 83 32 = z_n g ∧ g ≤ 4 ∧ ∀ i, i < g → ∃ y : Int, I 103 i = Int32.ofInt y ∧ -30 ≤ y ∧ y ≤ 30)
/-- the class's rows, as the reference has them -/
def z_iC (I : z_MI) : Prop := (∀ s, s < 24 → I 14 s = I 85 s ∧ I 15 s = I 87 s ∧ I 16 s = I 88 s ∧ I 17 s = I 89 s) ∧ (∀ v, v < 6 → I 19 v = I 84 v) ∧
  (∀ t k, t < 4 → k < 17 → I (29 + t) k = I 101 (17 * t + k)) ∧ (∀ i, i < 4 → I 33 i = I 103 i) ∧ I 27 2 = I 83 32
def z_iP (S : z_SH) (I : z_MI) (J : z_MJ) (P : z_MP) (K : Nat → Bool) (n : Nat) : Prop := ∀ s, s < 24 → (z_th I s = false ∧ P 18 s = none) ∨ (z_th I s = true ∧ ∃ p, P 18 s = some p ∧ z_pg S I J P K n p (z_Ds I J s))
def z_B (S : z_SH) (I : z_MI) (J : z_MJ) (P : z_MP) (K : Nat → Bool) (n : Nat) : Prop := z_St S ∧ z_Pt P ∧ (131 ≤ n ∧ ∀ a, K a = true → (70 < a ∧ a < 83) ∨ 131 ≤ a) ∧ z_iM I J ∧ z_iC I ∧ z_iP S I J P K n
section
variable {S S' : z_SH} {I I' : z_MI} {J J' : z_MJ} {P P' : z_MP} {K X : Nat → Bool} {n n' : Nat}
theorem z_B.qS (B : z_B S I J P K n) : z_St S := B.1
theorem z_B.qP (B : z_B S I J P K n) : z_Pt P := B.2.1
theorem z_B.qL (B : z_B S I J P K n) : z_lL I := B.2.2.2.1.1
theorem z_B.qV (B : z_B S I J P K n) : z_lV I := B.2.2.2.1.2.1
theorem z_B.qD (B : z_B S I J P K n) {s : Nat} (hs : s < 24) : d_ok (z_Ds I J s) := B.2.2.2.1.2.2.1 s hs
theorem z_B.qW (B : z_B S I J P K n) : z_lW I := fun s hs l hl => ((B.qD hs).2.1 l hl).2.2.1
theorem z_B.qC (B : z_B S I J P K n) : z_iC I := B.2.2.2.2.1
theorem z_B.pg (B : z_B S I J P K n) {s : Nat} (hs : s < 24) : (z_th I s = false ∧ P 18 s = none) ∨ (z_th I s = true ∧ ∃ p, P 18 s = some p ∧ z_pg S I J P K n p (z_Ds I J s)) := B.2.2.2.2.2 s hs
/-- what may change between: nothing of the pages, nothing of the statics but the scratch -/
def z_keep (X : Nat → Bool) (K : Nat → Bool) : Prop := ∀ a, X a = true → K a = true ∨ (22 ≤ a ∧ a ≤ 26) ∨ (35 ≤ a ∧ a ≤ 42)
theorem z_pg.mono {p : Nat} {D : z_D} (h : z_pg S I J P K n p D) (hk : z_keep X K) (g : z_ag n X S I J P S' I' J' P') (hn : n ≤ n') : z_pg S' I' J' P' K n' p D := by
  obtain ⟨⟨h1, h2, h3⟩, ⟨k0, k1, k2, k3, k4, k5, k6, k7⟩, ⟨d0, d1, d2⟩, t1, t2⟩ := h
  have hx : ∀ j, j ≤ 12 → X (p + j) = false := by
    intro j hj
    cases e : X (p + j) with
    | false => rfl
    | true =>
      rcases hk _ e with q | q | q
      · rw [h3 j hj] at q; cases q
      · omega
      · omega
  have hS : ∀ j, j ≤ 12 → S' (p + j) = S (p + j) := fun j hj => (g (p + j) (by omega)).1.1
  have hI : ∀ j, j ≤ 12 → I' (p + j) = I (p + j) := fun j hj => ((g (p + j) (by omega)).2 (hx j hj)).1
  have hJ : ∀ j, j ≤ 12 → J' (p + j) = J (p + j) := fun j hj => ((g (p + j) (by omega)).2 (hx j hj)).2
  have hQ : ∀ j, j ≤ 12 → P' (p + j) = P (p + j) := fun j hj => (g (p + j) (by omega)).1.2
  have hS0 := hS 0 (by omega)
  have hI0 := hI 0 (by omega)
  have hQ0 := hQ 0 (by omega)
  rw [Nat.add_zero] at hS0 hI0 hQ0
  refine ⟨⟨h1, by omega, h3⟩, ⟨hS0.trans k0, fun j a b => by rw [hQ0]; exact k1 j a b, fun j a b => (hS j (by omega)).trans (k2 j a b), (hS 4 (by omega)).trans k3, fun j a b => (hS j (by omega)).trans (k4 j a b), (hS 11 (by omega)).trans k5, by rw [hQ 11 (by omega)]; exact k6, (hS 12 (by omega)).trans k7⟩, ⟨by rw [hI0]; exact d0, fun k l a b => by rw [Nat.add_assoc, hJ (1 + k) (by omega), ← Nat.add_assoc]; exact d1 k l a b, fun l a => ?_⟩, fun l a => ?_, fun q t a b => by rw [hI 12 (by omega)]; exact t2 q t a b⟩
  · rw [hI 4 (by omega), hI 5 (by omega), hI 6 (by omega), hI 7 (by omega), hI 8 (by omega)]; exact d2 l a
  · rw [hI 9 (by omega), hI 10 (by omega)]; exact t1 l a
theorem z_St.mono (h : z_St S) (g : z_ag n X S I J P S' I' J' P') (hn : 131 ≤ n) : z_St S' := by
  intro a c hc
  by_cases ha : a < 131
  · rw [(g a (by omega)).1.1]; exact h a c hc
  · exfalso
    cases a with
    | zero => omega
    | succ a =>
      have : z_tl[a]? = none := List.getElem?_eq_none_iff.mpr (by rw [show z_tl.length = 129 from rfl]; omega)
      unfold z_tab at hc
      simp only at hc
      rw [if_neg (by omega), this] at hc
      cases hc
theorem z_Pt.mono (h : z_Pt P) (g : z_ag n X S I J P S' I' J' P') (hn : 131 ≤ n) : z_Pt P' := by
  intro q hm
  have h1 : ∀ q ∈ z_pl, q.1 < 131 := by decide
  have := h1 q hm
  rw [(g q.1 (by omega)).1.2]; exact h q hm
end
/-! the class -/
theorem C_isFrom {a v b : Int32} {σ : q_H} : f_Rs_isFrom a v b σ = some (z_b (¬ v < a ∧ ¬ b < v), σ) := M_within
theorem C_wi {v : Int32} {N : Nat} {σ : q_H} : f_Rs_isFrom (z_n 0) v (z_n N) σ = some (z_b (z_wi v N = true), σ) := M_wi
theorem z_wi_in {k N : Nat} (h : k ≤ N) (hN : N < 2147483648) : z_wi (z_n k) N = true := by
  unfold z_wi; simp (disch := omega) only [or_true, true_or, or_false, false_or, z_b_T, z_b_F, Bool.false_eq_true, Classical.not_not, decide_eq_true_eq, z_sq, Option.bind_some, z_lits, z_n_add, z_n_mul, z_lt, z_le, z_eq, z_ne1, z_1ne, z_lt1, z_1lt, z_ltT, z_ltF, z_leT, z_leF, z_eqF, z_b_0, z_b_1, ↓reduceIte, eq_self, not_true_eq_false, not_false_eq_true, and_true, true_and, and_false, false_and, Nat.add_zero, Nat.zero_add]
theorem z_wi_o {v : Int32} {N : Nat} (h : z_o v N) : z_wi v N = false := by
  unfold z_wi
  exact decide_eq_false (fun ⟨h1, h2⟩ => h.elim h1 h2)
theorem z_em (p : Prop) : (¬ p ∨ p) = True := eq_true ((Classical.em p).symm)
theorem z_b_01 {c : Prop} [Decidable c] : (z_b c = z_n 0 ∨ z_b c = z_n 1) = True := eq_true z_b_bool
theorem C_in {k N : Nat} {σ : q_H} (hk : k ≤ N) (hN : N < 2147483648) : f_Rs_isFrom (z_n 0) (z_n k) (z_n N) σ = some (z_n 1, σ) := M_win hk hN
theorem C_out {s : Int32} {N : Nat} {σ : q_H} (h : z_o s N) : f_Rs_isFrom (z_n 0) s (z_n N) σ = some (z_n 0, σ) := M_wout h
set_option maxRecDepth 100000 in
set_option maxHeartbeats 4000000 in
theorem C_isScope {a b : Int32} {σ : q_H} : f_Rs_isScope a b σ = some (z_b (z_sc a b = true), σ) := by
  unfold f_Rs_isScope z_sc
  by_cases h0 : a = z_n 0
  · subst h0; simp (disch := omega) only [Bool.or_eq_true, Bool.and_eq_true, true_or, or_true, true_or, or_false, false_or, z_b_T, z_b_F, Bool.false_eq_true, Classical.not_not, decide_eq_true_eq, z_sq, Option.bind_some, z_lits, z_n_add, z_n_mul, z_lt, z_le, z_eq, z_ne1, z_1ne, z_lt1, z_1lt, z_ltT, z_ltF, z_leT, z_leF, z_eqF, z_b_0, z_b_1, ↓reduceIte, eq_self, not_true_eq_false, not_false_eq_true, and_true, true_and, and_false, false_and, Nat.add_zero, Nat.zero_add]
  · by_cases h1 : a = z_n 1
    · subst h1; simp (disch := omega) only [C_wi, z_b_01, z_em, Bool.or_eq_true, Bool.and_eq_true, or_true, or_false, false_or, true_or, or_true, true_or, or_false, false_or, z_b_T, z_b_F, Bool.false_eq_true, Classical.not_not, decide_eq_true_eq, z_sq, Option.bind_some, z_lits, z_n_add, z_n_mul, z_lt, z_le, z_eq, z_ne1, z_1ne, z_lt1, z_1lt, z_ltT, z_ltF, z_leT, z_leF, z_eqF, z_b_0, z_b_1, ↓reduceIte, eq_self, not_true_eq_false, not_false_eq_true, and_true, true_and, and_false, false_and, Nat.add_zero, Nat.zero_add]
    · by_cases h2 : a = z_n 2
      · subst h2; simp (disch := omega) only [C_wi, z_b_01, z_em, Bool.or_eq_true, Bool.and_eq_true, or_true, or_false, false_or, true_or, or_true, true_or, or_false, false_or, z_b_T, z_b_F, Bool.false_eq_true, Classical.not_not, decide_eq_true_eq, z_sq, Option.bind_some, z_lits, z_n_add, z_n_mul, z_lt, z_le, z_eq, z_ne1, z_1ne, z_lt1, z_1lt, z_ltT, z_ltF, z_leT, z_leF, z_eqF, z_b_0, z_b_1, ↓reduceIte, eq_self, not_true_eq_false, not_false_eq_true, and_true, true_and, and_false, false_and, Nat.add_zero, Nat.zero_add]
      · by_cases h3 : a = z_n 3
        · subst h3; simp (disch := omega) only [C_wi, z_b_01, z_em, Bool.or_eq_true, Bool.and_eq_true, or_true, or_false, false_or, true_or, or_true, true_or, or_false, false_or, z_b_T, z_b_F, Bool.false_eq_true, Classical.not_not, decide_eq_true_eq, z_sq, Option.bind_some, z_lits, z_n_add, z_n_mul, z_lt, z_le, z_eq, z_ne1, z_1ne, z_lt1, z_1lt, z_ltT, z_ltF, z_leT, z_leF, z_eqF, z_b_0, z_b_1, ↓reduceIte, eq_self, not_true_eq_false, not_false_eq_true, and_true, true_and, and_false, false_and, Nat.add_zero, Nat.zero_add]
        · simp (disch := omega) only [h0, h1, h2, h3, Bool.or_eq_true, Bool.and_eq_true, or_false, or_true, true_or, or_false, false_or, z_b_T, z_b_F, Bool.false_eq_true, Classical.not_not, decide_eq_true_eq, z_sq, Option.bind_some, z_lits, z_n_add, z_n_mul, z_lt, z_le, z_eq, z_ne1, z_1ne, z_lt1, z_1lt, z_ltT, z_ltF, z_leT, z_leF, z_eqF, z_b_0, z_b_1, ↓reduceIte, eq_self, not_true_eq_false, not_false_eq_true, and_true, true_and, and_false, false_and, Nat.add_zero, Nat.zero_add]
section
variable {S : z_SH} {I : z_MI} {J : z_MJ} {P : z_MP} {K : Nat → Bool} {n : Nat × Nat}
set_option maxRecDepth 100000 in
set_option maxHeartbeats 4000000 in
theorem C_pageOf (hS : z_St S) (hP : z_Pt P) {s : Nat} (hs : s < 24) : f_Sf_pageOf 13 (z_n s) (z_h S I J P n) = some (P 18 s, z_h S I J P n) := by
  simp (disch := omega) only [f_Sf_pageOf, C_in, z_Shr hS hP, or_true, true_or, or_false, false_or, z_b_T, z_b_F, Bool.false_eq_true, Classical.not_not, decide_eq_true_eq, z_sq, Option.bind_some, z_lits, z_n_add, z_n_mul, z_lt, z_le, z_eq, z_ne1, z_1ne, z_lt1, z_1lt, z_ltT, z_ltF, z_leT, z_leF, z_eqF, z_b_0, z_b_1, ↓reduceIte, eq_self, not_true_eq_false, not_false_eq_true, and_true, true_and, and_false, false_and, Nat.add_zero, Nat.zero_add]
theorem C_pageOf_o {s : Int32} {x : Nat} {σ : q_H} (h : z_o s 23) : f_Sf_pageOf x s σ = some (none, σ) := by
  simp (disch := omega) only [f_Sf_pageOf, C_out h, or_true, true_or, or_false, false_or, z_b_T, z_b_F, Bool.false_eq_true, Classical.not_not, decide_eq_true_eq, z_sq, Option.bind_some, z_lits, z_n_add, z_n_mul, z_lt, z_le, z_eq, z_ne1, z_1ne, z_lt1, z_1lt, z_ltT, z_ltF, z_leT, z_leF, z_eqF, z_b_0, z_b_1, ↓reduceIte, eq_self, not_true_eq_false, not_false_eq_true, and_true, true_and, and_false, false_and, Nat.add_zero, Nat.zero_add]
set_option maxRecDepth 100000 in
set_option maxHeartbeats 4000000 in
theorem C_has {p l : Nat} {D : z_D} (hp : z_ps S P p) (h0 : I p 0 = z_n D.1) (hD : D.1 ≤ 12) (hl : l ≤ 11) : f_Pa_has p (z_n l) (z_h S I J P n) = some (z_b (l < D.1), z_h S I J P n) := by
  simp (disch := omega) only [f_Pa_has, z_ps_r hp, h0, C_isFrom, or_true, true_or, or_false, false_or, z_b_T, z_b_F, Bool.false_eq_true, Classical.not_not, decide_eq_true_eq, z_sq, Option.bind_some, z_lits, z_n_add, z_n_mul, z_lt, z_le, z_eq, z_ne1, z_1ne, z_lt1, z_1lt, z_ltT, z_ltF, z_leT, z_leF, z_eqF, z_b_0, z_b_1, ↓reduceIte, eq_self, not_true_eq_false, not_false_eq_true, and_true, true_and, and_false, false_and, Nat.add_zero, Nat.zero_add]
  by_cases e : D.1 = 0
  · simp (disch := omega) only [e, z_n_sub, or_true, true_or, or_false, false_or, z_b_T, z_b_F, Bool.false_eq_true, Classical.not_not, decide_eq_true_eq, z_sq, Option.bind_some, z_lits, z_n_add, z_n_mul, z_lt, z_le, z_eq, z_ne1, z_1ne, z_lt1, z_1lt, z_ltT, z_ltF, z_leT, z_leF, z_eqF, z_b_0, z_b_1, ↓reduceIte, eq_self, not_true_eq_false, not_false_eq_true, and_true, true_and, and_false, false_and, Nat.add_zero, Nat.zero_add]
    rw [show z_n 0 - z_n 1 = -z_n 1 by decide]
    simp (disch := omega) only [z_1lt, true_or, or_true, true_or, or_false, false_or, z_b_T, z_b_F, Bool.false_eq_true, Classical.not_not, decide_eq_true_eq, z_sq, Option.bind_some, z_lits, z_n_add, z_n_mul, z_lt, z_le, z_eq, z_ne1, z_1ne, z_lt1, z_1lt, z_ltT, z_ltF, z_leT, z_leF, z_eqF, z_b_0, z_b_1, ↓reduceIte, eq_self, not_true_eq_false, not_false_eq_true, and_true, true_and, and_false, false_and, Nat.add_zero, Nat.zero_add]
  · simp (disch := omega) only [z_n_sub, or_true, true_or, or_false, false_or, z_b_T, z_b_F, Bool.false_eq_true, Classical.not_not, decide_eq_true_eq, z_sq, Option.bind_some, z_lits, z_n_add, z_n_mul, z_lt, z_le, z_eq, z_ne1, z_1ne, z_lt1, z_1lt, z_ltT, z_ltF, z_leT, z_leF, z_eqF, z_b_0, z_b_1, ↓reduceIte, eq_self, not_true_eq_false, not_false_eq_true, and_true, true_and, and_false, false_and, Nat.add_zero, Nat.zero_add]
    by_cases h : l < D.1 <;> simp (disch := omega) only [h, z_b_01, or_true, true_or, or_true, true_or, or_false, false_or, z_b_T, z_b_F, Bool.false_eq_true, Classical.not_not, decide_eq_true_eq, z_sq, Option.bind_some, z_lits, z_n_add, z_n_mul, z_lt, z_le, z_eq, z_ne1, z_1ne, z_lt1, z_1lt, z_ltT, z_ltF, z_leT, z_leF, z_eqF, z_b_0, z_b_1, ↓reduceIte, eq_self, not_true_eq_false, not_false_eq_true, and_true, true_and, and_false, false_and, Nat.add_zero, Nat.zero_add]
set_option maxRecDepth 100000 in
set_option maxHeartbeats 4000000 in
theorem C_has_o {p : Nat} {l : Int32} {D : z_D} (hp : z_ps S P p) (h0 : I p 0 = z_n D.1) (hD : D.1 ≤ 12) (hl : z_o l 11) : f_Pa_has p l (z_h S I J P n) = some (z_n 0, z_h S I J P n) := by
  have h3 : ¬ (¬ l < z_n 0 ∧ ¬ z_n D.1 - z_n 1 < l) := by
    intro ⟨h4, h5⟩
    rcases hl with h6 | h6
    · exact h4 h6
    · apply h5
      rw [Int32.lt_iff_toInt_lt, z_n_int (by omega)] at h6
      by_cases h0 : D.1 = 0
      · rw [h0, show z_n 0 - z_n 1 = -z_n 1 by decide, Int32.lt_iff_toInt_lt]
        have := z_m1
        omega
      · rw [z_n_sub (by omega), Int32.lt_iff_toInt_lt, z_n_int (by omega)]; omega
  simp (disch := omega) only [f_Pa_has, z_ps_r hp, h0, C_isFrom, h3, or_true, true_or, or_false, false_or, z_b_T, z_b_F, Bool.false_eq_true, Classical.not_not, decide_eq_true_eq, z_sq, Option.bind_some, z_lits, z_n_add, z_n_mul, z_lt, z_le, z_eq, z_ne1, z_1ne, z_lt1, z_1lt, z_ltT, z_ltF, z_leT, z_leF, z_eqF, z_b_0, z_b_1, ↓reduceIte, eq_self, not_true_eq_false, not_false_eq_true, and_true, true_and, and_false, false_and, Nat.add_zero, Nat.zero_add]
end
section
variable {S : z_SH} {I : z_MI} {J : z_MJ} {P : z_MP} {K : Nat → Bool} {n : Nat × Nat}
/-- what a page's own rows give of a line -/
theorem z_pd.sz {p : Nat} {D : z_D} (h : z_pd I J p D) : I p 0 = z_n D.1 := h.1
theorem z_pd.w {p l : Nat} {D : z_D} (h : z_pd I J p D) (hl : l < D.1) : I (p + 7) l = D.2.1 2 l := (h.2.2 l hl).2.2.2.1
theorem z_sc_cases {a b : Int32} (h : z_sc a b = true) : a = z_n 0 ∨ a = z_n 1 ∨ a = z_n 2 ∨ a = z_n 3 := by
  unfold z_sc at h
  simp only [Bool.or_eq_true, Bool.and_eq_true, decide_eq_true_eq] at h
  rcases h with ((h | h) | h) | h
  · exact Or.inl h
  · exact Or.inr (Or.inl h.1)
  · exact Or.inr (Or.inr (Or.inl h.1))
  · exact Or.inr (Or.inr (Or.inr h.1))
set_option maxRecDepth 100000 in
set_option maxHeartbeats 4000000 in
theorem C_pageWithin (B : z_B S I J P K n.1) {s : Nat} {a b : Int32} (hs : s < 24) (ha : a = z_n 0 ∨ a = z_n 1 ∨ a = z_n 2 ∨ a = z_n 3) : f_Sf_pageWithin 13 (z_n s) a b (z_h S I J P n) = some (if z_ii I s a b = true then P 18 s else none, z_h S I J P n) := by
  have hS := B.qS
  have hP := B.qP
  obtain ⟨e1, e2, e3, e4⟩ := B.qC.1 s hs
  have ⟨hv, hv6⟩ := B.qV s hs
  have e5 := B.qC.2.1 (z_vi I s) hv6
  unfold f_Sf_pageWithin z_ii
  rw [z_ob (s_13 hS), Option.bind_some, C_pageOf hS hP hs, z_sq]
  rcases B.pg hs with ⟨h1, h2⟩ | ⟨h1, p, h2, h3⟩
  · rw [h2]
    simp (disch := omega) only [h1, Bool.false_and, if_false, or_true, true_or, or_false, false_or, z_b_T, z_b_F, Bool.false_eq_true, Classical.not_not, decide_eq_true_eq, z_sq, Option.bind_some, z_lits, z_n_add, z_n_mul, z_lt, z_le, z_eq, z_ne1, z_1ne, z_lt1, z_1lt, z_ltT, z_ltF, z_leT, z_leF, z_eqF, z_b_0, z_b_1, ↓reduceIte, eq_self, not_true_eq_false, not_false_eq_true, and_true, true_and, and_false, false_and, Nat.add_zero, Nat.zero_add]
  · rw [h2]
    rcases z_tf (I 87 s = b) with k1 | k1 <;> rcases z_tf (I 88 s = b) with k2 | k2 <;> rcases z_tf (I 84 (z_vi I s) = b) with k3 | k3
    all_goals
      rcases ha with rfl | rfl | rfl | rfl
      · simp (disch := omega) only [h1, Bool.or_eq_true, Bool.and_eq_true, or_true, true_or, or_false, false_or, z_b_T, z_b_F, Bool.false_eq_true, Classical.not_not, decide_eq_true_eq, z_sq, Option.bind_some, z_lits, z_n_add, z_n_mul, z_lt, z_le, z_eq, z_ne1, z_1ne, z_lt1, z_1lt, z_ltT, z_ltF, z_leT, z_leF, z_eqF, z_b_0, z_b_1, ↓reduceIte, eq_self, not_true_eq_false, not_false_eq_true, and_true, true_and, and_false, false_and, Nat.add_zero, Nat.zero_add]
      · simp (disch := omega) only [h1, e1, e2, e3, e4, k1, Bool.or_eq_true, Bool.and_eq_true, z_Shr hS hP, or_true, true_or, or_false, false_or, z_b_T, z_b_F, Bool.false_eq_true, Classical.not_not, decide_eq_true_eq, z_sq, Option.bind_some, z_lits, z_n_add, z_n_mul, z_lt, z_le, z_eq, z_ne1, z_1ne, z_lt1, z_1lt, z_ltT, z_ltF, z_leT, z_leF, z_eqF, z_b_0, z_b_1, ↓reduceIte, eq_self, not_true_eq_false, not_false_eq_true, and_true, true_and, and_false, false_and, Nat.add_zero, Nat.zero_add]
      · simp (disch := omega) only [h1, e1, e2, e3, e4, k2, Bool.or_eq_true, Bool.and_eq_true, z_Shr hS hP, or_true, true_or, or_false, false_or, z_b_T, z_b_F, Bool.false_eq_true, Classical.not_not, decide_eq_true_eq, z_sq, Option.bind_some, z_lits, z_n_add, z_n_mul, z_lt, z_le, z_eq, z_ne1, z_1ne, z_lt1, z_1lt, z_ltT, z_ltF, z_leT, z_leF, z_eqF, z_b_0, z_b_1, ↓reduceIte, eq_self, not_true_eq_false, not_false_eq_true, and_true, true_and, and_false, false_and, Nat.add_zero, Nat.zero_add]
      · simp (disch := omega) only [h1, e1, e2, e3, e4, e5, k3, hv, Bool.or_eq_true, Bool.and_eq_true, z_Shr hS hP, or_true, true_or, or_false, false_or, z_b_T, z_b_F, Bool.false_eq_true, Classical.not_not, decide_eq_true_eq, z_sq, Option.bind_some, z_lits, z_n_add, z_n_mul, z_lt, z_le, z_eq, z_ne1, z_1ne, z_lt1, z_1lt, z_ltT, z_ltF, z_leT, z_leF, z_eqF, z_b_0, z_b_1, ↓reduceIte, eq_self, not_true_eq_false, not_false_eq_true, and_true, true_and, and_false, false_and, Nat.add_zero, Nat.zero_add]
/-- a Tally -/
def z_ty (S : z_SH) (I : z_MI) (P : z_MP) (t : Nat) (c : Nat → Nat → Nat) : Prop := S t = some (9, [2]) ∧ P t 0 = some (t + 1) ∧ S (t + 1) = some (20, List.replicate 15 0) ∧ ∀ q k, q < 5 → k < 3 → I (t + 1) (q * 3 + k) = z_n (c q k)
theorem z_pg.ty {p m : Nat} {D : z_D} (h : z_pg S I J P K m p D) : z_ty S I P (p + 11) (d_ct D) := ⟨h.2.1.2.2.2.2.2.1, h.2.1.2.2.2.2.2.2.1, h.2.1.2.2.2.2.2.2.2, h.2.2.2.2⟩
set_option maxRecDepth 100000 in
set_option maxHeartbeats 4000000 in
theorem C_ofSort {t q lv : Nat} {c : Nat → Nat → Nat} (h : z_ty S I P t c) (hq : q < 5) (hl : lv ≤ 2) : f_Ty_ofSort t (z_n q) (z_n lv) (z_h S I J P n) = some (z_n (z_sum (3 - lv) (c q)), z_h S I J P n) := by
  obtain ⟨h1, h2, h3, h4⟩ := h
  have r1 : ∀ I J n, q_gr (q_gf (z_h S I J P n) 9 t 0) = some (t + 1) := fun _ _ _ => z_gr h1 rfl h2
  have r2 : ∀ I J n i, i < 15 → q_gi (q_ga (z_h S I J P n) 20 (t + 1) (z_n i)) = some (I (t + 1) i) := fun _ _ _ i hi => z_gia h3 (by omega) (z_rpl hi)
  have h := z_run (fun m i => f_Ty_ofSort_L5 t (z_n q) (z_n lv) m (z_n (z_sum i (c q))) (z_n i) (z_h S I J P n)) (3 - lv) (r := some (z_n (z_sum (3 - lv) (c q)), z_h S I J P n)) (by omega)
    (by
      intro m i hi
      simp (disch := omega) only [f_Ty_ofSort_L5, z_n_sub, r1, r2, h4 q i hq (show i < 3 by omega), z_sum_s, or_true, true_or, or_false, false_or, z_b_T, z_b_F, Bool.false_eq_true, Classical.not_not, decide_eq_true_eq, z_sq, Option.bind_some, z_lits, z_n_add, z_n_mul, z_lt, z_le, z_eq, z_ne1, z_1ne, z_lt1, z_1lt, z_ltT, z_ltF, z_leT, z_leF, z_eqF, z_b_0, z_b_1, ↓reduceIte, eq_self, not_true_eq_false, not_false_eq_true, and_true, true_and, and_false, false_and, Nat.add_zero, Nat.zero_add])
    (by
      intro m
      simp (disch := omega) only [f_Ty_ofSort_L5, z_n_sub, or_true, true_or, or_false, false_or, z_b_T, z_b_F, Bool.false_eq_true, Classical.not_not, decide_eq_true_eq, z_sq, Option.bind_some, z_lits, z_n_add, z_n_mul, z_lt, z_le, z_eq, z_ne1, z_1ne, z_lt1, z_1lt, z_ltT, z_ltF, z_leT, z_leF, z_eqF, z_b_0, z_b_1, ↓reduceIte, eq_self, not_true_eq_false, not_false_eq_true, and_true, true_and, and_false, false_and, Nat.add_zero, Nat.zero_add])
  simp only [z_sum_0] at h
  simp (disch := omega) only [f_Ty_ofSort, h, or_true, true_or, or_false, false_or, z_b_T, z_b_F, Bool.false_eq_true, Classical.not_not, decide_eq_true_eq, z_sq, Option.bind_some, z_lits, z_n_add, z_n_mul, z_lt, z_le, z_eq, z_ne1, z_1ne, z_lt1, z_1lt, z_ltT, z_ltF, z_leT, z_leF, z_eqF, z_b_0, z_b_1, ↓reduceIte, eq_self, not_true_eq_false, not_false_eq_true, and_true, true_and, and_false, false_and, Nat.add_zero, Nat.zero_add]
set_option maxRecDepth 100000 in
set_option maxHeartbeats 4000000 in
theorem C_all {t lv : Nat} {c : Nat → Nat → Nat} (h : z_ty S I P t c) (hl : lv ≤ 2) : f_Ty_all t (z_n lv) (z_h S I J P n) = some (z_n (z_sum 5 fun q => z_sum (3 - lv) (c q)), z_h S I J P n) := by
  have hob : q_ob (z_h S I J P n) 9 t = some (z_vs I J P t [2]) := z_ob h.1
  have h' := z_run (fun m i => f_Ty_all_L4 t (z_n lv) m (z_n (z_sum i fun q => z_sum (3 - lv) (c q))) (z_n i) (z_h S I J P n)) 5 (r := some (z_n (z_sum 5 fun q => z_sum (3 - lv) (c q)), z_h S I J P n)) (by omega)
    (by
      intro m i hi
      simp (disch := omega) only [f_Ty_all_L4, hob, C_ofSort h hi hl, z_sum_s, or_true, true_or, or_false, false_or, z_b_T, z_b_F, Bool.false_eq_true, Classical.not_not, decide_eq_true_eq, z_sq, Option.bind_some, z_lits, z_n_add, z_n_mul, z_lt, z_le, z_eq, z_ne1, z_1ne, z_lt1, z_1lt, z_ltT, z_ltF, z_leT, z_leF, z_eqF, z_b_0, z_b_1, ↓reduceIte, eq_self, not_true_eq_false, not_false_eq_true, and_true, true_and, and_false, false_and, Nat.add_zero, Nat.zero_add])
    (by
      intro m
      simp (disch := omega) only [f_Ty_all_L4, or_true, true_or, or_false, false_or, z_b_T, z_b_F, Bool.false_eq_true, Classical.not_not, decide_eq_true_eq, z_sq, Option.bind_some, z_lits, z_n_add, z_n_mul, z_lt, z_le, z_eq, z_ne1, z_1ne, z_lt1, z_1lt, z_ltT, z_ltF, z_leT, z_leF, z_eqF, z_b_0, z_b_1, ↓reduceIte, eq_self, not_true_eq_false, not_false_eq_true, and_true, true_and, and_false, false_and, Nat.add_zero, Nat.zero_add])
  simp only [z_sum_0] at h'
  simp (disch := omega) only [f_Ty_all, h', or_true, true_or, or_false, false_or, z_b_T, z_b_F, Bool.false_eq_true, Classical.not_not, decide_eq_true_eq, z_sq, Option.bind_some, z_lits, z_n_add, z_n_mul, z_lt, z_le, z_eq, z_ne1, z_1ne, z_lt1, z_1lt, z_ltT, z_ltF, z_leT, z_leF, z_eqF, z_b_0, z_b_1, ↓reduceIte, eq_self, not_true_eq_false, not_false_eq_true, and_true, true_and, and_false, false_and, Nat.add_zero, Nat.zero_add]
set_option maxRecDepth 100000 in
set_option maxHeartbeats 4000000 in
theorem C_picked {t lv how : Nat} {c : Nat → Nat → Nat} (h : z_ty S I P t c) (hl : lv ≤ 2) (hh : how ≤ 2) : f_Ty_picked t (z_n how) (z_n lv) (z_h S I J P n) = some (z_n (z_sum (3 - lv) (c 0) + ((if 1 ≤ how then z_sum (3 - lv) (c 2) else 0) + if 2 ≤ how then z_sum (3 - lv) (c 3) else 0)), z_h S I J P n) := by
  have hob : q_ob (z_h S I J P n) 9 t = some (z_vs I J P t [2]) := z_ob h.1
  simp (disch := omega) only [f_Ty_picked, hob, C_ofSort h, or_true, true_or, or_false, false_or, z_b_T, z_b_F, Bool.false_eq_true, Classical.not_not, decide_eq_true_eq, z_sq, Option.bind_some, z_lits, z_n_add, z_n_mul, z_lt, z_le, z_eq, z_ne1, z_1ne, z_lt1, z_1lt, z_ltT, z_ltF, z_leT, z_leF, z_eqF, z_b_0, z_b_1, ↓reduceIte, eq_self, not_true_eq_false, not_false_eq_true, and_true, true_and, and_false, false_and, Nat.add_zero, Nat.zero_add]
  by_cases h1 : how = 0
  · subst h1; simp (disch := omega) only [or_true, true_or, or_false, false_or, z_b_T, z_b_F, Bool.false_eq_true, Classical.not_not, decide_eq_true_eq, z_sq, Option.bind_some, z_lits, z_n_add, z_n_mul, z_lt, z_le, z_eq, z_ne1, z_1ne, z_lt1, z_1lt, z_ltT, z_ltF, z_leT, z_leF, z_eqF, z_b_0, z_b_1, ↓reduceIte, eq_self, not_true_eq_false, not_false_eq_true, and_true, true_and, and_false, false_and, Nat.add_zero, Nat.zero_add]
  · by_cases h2 : how = 1
    · subst h2; simp (disch := omega) only [Nat.add_assoc, or_true, true_or, or_false, false_or, z_b_T, z_b_F, Bool.false_eq_true, Classical.not_not, decide_eq_true_eq, z_sq, Option.bind_some, z_lits, z_n_add, z_n_mul, z_lt, z_le, z_eq, z_ne1, z_1ne, z_lt1, z_1lt, z_ltT, z_ltF, z_leT, z_leF, z_eqF, z_b_0, z_b_1, ↓reduceIte, eq_self, not_true_eq_false, not_false_eq_true, and_true, true_and, and_false, false_and, Nat.add_zero, Nat.zero_add]
    · have : how = 2 := by omega
      subst this; simp (disch := omega) only [hob, C_ofSort h, Nat.add_assoc, or_true, true_or, or_false, false_or, z_b_T, z_b_F, Bool.false_eq_true, Classical.not_not, decide_eq_true_eq, z_sq, Option.bind_some, z_lits, z_n_add, z_n_mul, z_lt, z_le, z_eq, z_ne1, z_1ne, z_lt1, z_1lt, z_ltT, z_ltF, z_leT, z_leF, z_eqF, z_b_0, z_b_1, ↓reduceIte, eq_self, not_true_eq_false, not_false_eq_true, and_true, true_and, and_false, false_and, Nat.add_zero, Nat.zero_add]
end
