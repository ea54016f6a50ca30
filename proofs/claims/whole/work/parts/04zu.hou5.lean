/-! LEFT OUT: the class. -/
/-- a line of E has a parent in D -/
def d_hp (D E : z_D) (i : Nat) : Bool := decide ((¬ E.2.2 1 i = 0 ∧ d_nm (E.2.2 1 i) D < D.1 ∧ D.2.1 0 (d_nm (E.2.2 1 i) D) = z_n 0) ∨ (¬ E.2.2 2 i = 0 ∧ d_nm (E.2.2 2 i) D < D.1 ∧ ¬ D.2.1 0 (d_nm (E.2.2 2 i) D) = z_n 0))
def h_yr (I : z_MI) (s : Nat) : Int32 := z_n 14 * I 88 s
def h_lf (I : z_MI) (J : z_MJ) (s t w x i : Nat) : Nat := if (¬ h_kl I J t i 24 < h_kf I J t i 24 ∧ h_kf I J t i 24 < h_yr I s ∧ d_hp (z_Ds I J s) (z_Ds I J t) i = true ∧ ¬ h_on I J t s i < z_ln I s) ∧ I 91 (12 * t + i) = z_n w ∧ (x = if h_kl I J t i 24 < h_yr I s then 0 else 1) then 1 else 0
section
variable {S : z_SH} {I X : z_MI} {J : z_MJ} {P : z_MP} {K : Nat → Bool} {n : Nat × Nat}
set_option maxRecDepth 100000 in
set_option maxHeartbeats 4000000 in
theorem C_hasP {p q i : Nat} {D E : z_D} (hp : z_ps S P p) (hq : z_ps S P q) (hd : z_pd I J p D) (he : z_pd I J q E) (hi : i < E.1) (hD : D.1 ≤ 12) (hE : E.1 ≤ 12) : f_Pa_hasParentOf p q (z_n i) (z_h S I J P n) = some (z_b (d_hp D E i = true), z_h S I J P n) := by
  have r1 := z_ps_r hp
  have r2 := z_ps_r hq
  have fa := he.fa hi
  have mo := he.mo hi
  have lo1 := C_lineOf (n := n) (x := E.2.2 1 i) hp hd hD
  have lo2 := C_lineOf (n := n) (x := E.2.2 2 i) hp hd hD
  unfold d_hp
  generalize d_nm (E.2.2 1 i) D = b at *
  generalize d_nm (E.2.2 2 i) D = c at *
  by_cases h2 : b < D.1
  · have s1 := hd.se h2
    rw [if_pos h2] at lo1
    by_cases h4 : c < D.1
    · have s2 := hd.se h4
      rw [if_pos h4] at lo2
      rcases z_tf (E.2.2 1 i = 0) with h1 | h1 <;> rcases z_tf (E.2.2 2 i = 0) with h3 | h3 <;> rcases z_tf (D.2.1 0 b = z_n 0) with h5 | h5 <;> rcases z_tf (D.2.1 0 c = z_n 0) with h6 | h6 <;> simp (disch := omega) only [f_Pa_hasParentOf, r1, r2, fa, mo, lo1, lo2, s1, s2, h1, h2, h3, h4, h5, h6, or_true, true_or, or_false, false_or, z_b_T, z_b_F, Bool.false_eq_true, Classical.not_not, decide_eq_true_eq, z_sq, Option.bind_some, z_lits, z_n_add, z_n_mul, z_lt, z_le, z_eq, z_ne1, z_1ne, z_lt1, z_1lt, z_ltT, z_ltF, z_leT, z_leF, z_eqF, z_b_0, z_b_1, ↓reduceIte, eq_self, not_true_eq_false, not_false_eq_true, and_true, true_and, and_false, false_and, Nat.add_zero, Nat.zero_add]
    · rw [if_neg h4] at lo2
      rcases z_tf (E.2.2 1 i = 0) with h1 | h1 <;> rcases z_tf (E.2.2 2 i = 0) with h3 | h3 <;> rcases z_tf (D.2.1 0 b = z_n 0) with h5 | h5 <;> simp (disch := omega) only [f_Pa_hasParentOf, r1, r2, fa, mo, lo1, lo2, s1, h1, h2, h3, h4, h5, or_true, true_or, or_false, false_or, z_b_T, z_b_F, Bool.false_eq_true, Classical.not_not, decide_eq_true_eq, z_sq, Option.bind_some, z_lits, z_n_add, z_n_mul, z_lt, z_le, z_eq, z_ne1, z_1ne, z_lt1, z_1lt, z_ltT, z_ltF, z_leT, z_leF, z_eqF, z_b_0, z_b_1, ↓reduceIte, eq_self, not_true_eq_false, not_false_eq_true, and_true, true_and, and_false, false_and, Nat.add_zero, Nat.zero_add]
  · rw [if_neg h2] at lo1
    by_cases h4 : c < D.1
    · have s2 := hd.se h4
      rw [if_pos h4] at lo2
      rcases z_tf (E.2.2 1 i = 0) with h1 | h1 <;> rcases z_tf (E.2.2 2 i = 0) with h3 | h3 <;> rcases z_tf (D.2.1 0 c = z_n 0) with h6 | h6 <;> simp (disch := omega) only [f_Pa_hasParentOf, r1, r2, fa, mo, lo1, lo2, s2, h1, h2, h3, h4, h6, or_true, true_or, or_false, false_or, z_b_T, z_b_F, Bool.false_eq_true, Classical.not_not, decide_eq_true_eq, z_sq, Option.bind_some, z_lits, z_n_add, z_n_mul, z_lt, z_le, z_eq, z_ne1, z_1ne, z_lt1, z_1lt, z_ltT, z_ltF, z_leT, z_leF, z_eqF, z_b_0, z_b_1, ↓reduceIte, eq_self, not_true_eq_false, not_false_eq_true, and_true, true_and, and_false, false_and, Nat.add_zero, Nat.zero_add]
    · rw [if_neg h4] at lo2
      rcases z_tf (E.2.2 1 i = 0) with h1 | h1 <;> rcases z_tf (E.2.2 2 i = 0) with h3 | h3 <;> simp (disch := omega) only [f_Pa_hasParentOf, r1, r2, fa, mo, lo1, lo2, h1, h2, h3, h4, or_true, true_or, or_false, false_or, z_b_T, z_b_F, Bool.false_eq_true, Classical.not_not, decide_eq_true_eq, z_sq, Option.bind_some, z_lits, z_n_add, z_n_mul, z_lt, z_le, z_eq, z_ne1, z_1ne, z_lt1, z_1lt, z_ltT, z_ltF, z_leT, z_leF, z_eqF, z_b_0, z_b_1, ↓reduceIte, eq_self, not_true_eq_false, not_false_eq_true, and_true, true_and, and_false, false_and, Nat.add_zero, Nat.zero_add]
set_option maxRecDepth 100000 in
set_option maxHeartbeats 4000000 in
theorem C_seek35 (B : z_B S I J P K n.1) (hX : ∀ a, (a < 22 ∨ 26 < a) → X a = I a) {s t p q : Nat} {b : Nat → Nat} (hs : s < 24) (ht : t < 24) (sh : h_sh I t s = true) (hp : z_ps S P p) (hq : z_ps S P q) (h131 : 131 ≤ p ∧ 131 ≤ q) (hd : z_pd X J p (z_Ds I J s)) (he : z_pd X J q (z_Ds I J t)) (hk : h_kn I J (fun _ _ => 24) X) (hb : ∀ j, j < 96 → X 26 j = z_n (b j)) : ∃ Y, f_Ho_seekLeftOut_L35 22 13 (z_n s) (z_n t) p q (h_yr I s) q_FU (z_n 0) (z_h S X J P n) = some ((), z_h S Y J P n) ∧ (∀ a, a ≠ 26 → Y a = X a) ∧ ∀ j, j < 96 → Y 26 j = z_n (b j + if j / 4 = s then z_sum (z_ln I t) (h_lf I J s t (j % 4 / 2) (j % 2)) else 0) := by
  have hS := B.qS
  have hP := B.qP
  have ts := sh
  rw [h_sh_i] at ts
  have l12 : z_ln I t ≤ 12 := (B.qD ht).1
  have hob := fun I J => z_ob (I := I) (J := J) (P := P) (n := n) (s_13 hS)
  have r1 := z_ps_r hp
  have r2 := z_ps_r hq
  exact z_runI (fun m i (Y : z_MI) => f_Ho_seekLeftOut_L35 22 13 (z_n s) (z_n t) p q (h_yr I s) m (z_n i) (z_h S Y J P n)) (z_ln I t)
    (fun i Y => (∀ a, a ≠ 26 → Y a = X a) ∧ ∀ j, j < 96 → Y 26 j = z_n (b j + if j / 4 = s then z_sum i (h_lf I J s t (j % 4 / 2) (j % 2)) else 0))
    (fun r => ∃ Y, r = some ((), z_h S Y J P n) ∧ (∀ a, a ≠ 26 → Y a = X a) ∧ ∀ j, j < 96 → Y 26 j = z_n (b j + if j / 4 = s then z_sum (z_ln I t) (h_lf I J s t (j % 4 / 2) (j % 2)) else 0)) (by omega)
    (by
      intro m i Y hi ⟨q1, q2⟩
      have hY : ∀ a, (a < 22 ∨ 26 < a) → Y a = I a := fun a ha => (q1 a (by omega)).trans (hX a ha)
      have hdY : z_pd Y J p (z_Ds I J s) := z_pd_of hd (fun a ha => q1 a (by omega))
      have heY : z_pd Y J q (z_Ds I J t) := z_pd_of he (fun a ha => q1 a (by omega))
      have sz : Y q 0 = z_n (z_ln I t) := heY.1
      have se : Y (q + 4) i = I 91 (12 * t + i) := heY.se hi
      have mt := C_mt (n := n) B hY ht hs hq hp heY hdY hi sh
      have hpa := C_hasP (n := n) (J := J) hp hq hdY heY hi (B.qD hs).1 (B.qD ht).1
      obtain ⟨k1, k2⟩ := hk t i ht ts.1 hi
      rw [← q1 24 (by decide)] at k1
      rw [← q1 25 (by decide)] at k2
      obtain ⟨sx, -⟩ := (B.qD ht).2.1 i hi
      change I 91 (12 * t + i) = z_n 0 ∨ I 91 (12 * t + i) = z_n 1 at sx
      have no : (¬ (¬ h_kl I J t i 24 < h_kf I J t i 24 ∧ h_kf I J t i 24 < h_yr I s ∧ d_hp (z_Ds I J s) (z_Ds I J t) i = true ∧ ¬ h_on I J t s i < z_ln I s)) → ∀ j, j < 96 → Y 26 j = z_n (b j + if j / 4 = s then z_sum (i + 1) (h_lf I J s t (j % 4 / 2) (j % 2)) else 0) := by
        intro g j hj
        have e : h_lf I J s t (j % 4 / 2) (j % 2) i = 0 := if_neg (fun q => g q.1)
        rw [q2 j hj, z_sum_s, e, Nat.add_zero]
      have yes : ∀ w0 x0, w0 < 2 → x0 < 2 → (¬ h_kl I J t i 24 < h_kf I J t i 24 ∧ h_kf I J t i 24 < h_yr I s ∧ d_hp (z_Ds I J s) (z_Ds I J t) i = true ∧ ¬ h_on I J t s i < z_ln I s) → I 91 (12 * t + i) = z_n w0 → (x0 = if h_kl I J t i 24 < h_yr I s then 0 else 1) → ∀ k, k = s * 4 + w0 * 2 + x0 → ∀ j, j < 96 → z_up Y 26 k (Y 26 k + z_n 1) 26 j = z_n (b j + if j / 4 = s then z_sum (i + 1) (h_lf I J s t (j % 4 / 2) (j % 2)) else 0) := by
        intro w0 x0 hw hx g e1 e2 k hk2 j hj
        rw [z_up_e]
        by_cases e : j = k
        · have e3 : j / 4 = s := by omega
          have e4 : j % 4 / 2 = w0 := by omega
          have e5 : j % 2 = x0 := by omega
          have e6 : h_lf I J s t (j % 4 / 2) (j % 2) i = 1 := by rw [e4, e5]; exact if_pos ⟨g, e1, e2⟩
          rw [if_pos e, ← e, q2 j hj, if_pos e3, if_pos e3, z_sum_s, e6, z_n_add, Nat.add_assoc]
        · rw [if_neg e, q2 j hj]
          by_cases e3 : j / 4 = s
          · have e6 : h_lf I J s t (j % 4 / 2) (j % 2) i = 0 := by
              refine if_neg (fun q => ?_)
              obtain ⟨-, q3, q4⟩ := q
              rw [e1, z_eq (by omega) (by omega)] at q3
              rw [← e2] at q4
              omega
            rw [if_pos e3, if_pos e3, z_sum_s, e6, Nat.add_zero]
          · rw [if_neg e3, if_neg e3]
      generalize h_kl I J t i 24 = kl at *
      generalize h_kf I J t i 24 = kf at *
      generalize h_yr I s = yr at *
      by_cases c1 : kl < kf
      · have c1' := eq_true c1
        refine ⟨Y, ⟨q1, no (fun g => g.1 c1)⟩, ?_⟩
        simp (disch := omega) only [f_Ho_seekLeftOut_L35, r2, sz, hi, k1, k2, c1', z_Hor hS hP, or_true, true_or, or_false, false_or, z_b_T, z_b_F, Bool.false_eq_true, Classical.not_not, decide_eq_true_eq, z_sq, Option.bind_some, z_lits, z_n_add, z_n_mul, z_lt, z_le, z_eq, z_ne1, z_1ne, z_lt1, z_1lt, z_ltT, z_ltF, z_leT, z_leF, z_eqF, z_b_0, z_b_1, ↓reduceIte, eq_self, not_true_eq_false, not_false_eq_true, and_true, true_and, and_false, false_and, Nat.add_zero, Nat.zero_add]
      have c1' := eq_false c1
      by_cases c2 : kf < yr
      rotate_left
      · have c2' := eq_false c2
        refine ⟨Y, ⟨q1, no (fun g => c2 g.2.1)⟩, ?_⟩
        simp (disch := omega) only [f_Ho_seekLeftOut_L35, r2, sz, hi, k1, k2, c1', c2', z_Hor hS hP, or_true, true_or, or_false, false_or, z_b_T, z_b_F, Bool.false_eq_true, Classical.not_not, decide_eq_true_eq, z_sq, Option.bind_some, z_lits, z_n_add, z_n_mul, z_lt, z_le, z_eq, z_ne1, z_1ne, z_lt1, z_1lt, z_ltT, z_ltF, z_leT, z_leF, z_eqF, z_b_0, z_b_1, ↓reduceIte, eq_self, not_true_eq_false, not_false_eq_true, and_true, true_and, and_false, false_and, Nat.add_zero, Nat.zero_add]
      have c2' := eq_true c2
      by_cases c3 : d_hp (z_Ds I J s) (z_Ds I J t) i = true
      rotate_left
      · rw [z_b_f c3] at hpa
        refine ⟨Y, ⟨q1, no (fun g => c3 g.2.2.1)⟩, ?_⟩
        simp (disch := omega) only [f_Ho_seekLeftOut_L35, r1, r2, sz, hi, k1, k2, c1', c2', hpa, z_Hor hS hP, or_true, true_or, or_false, false_or, z_b_T, z_b_F, Bool.false_eq_true, Classical.not_not, decide_eq_true_eq, z_sq, Option.bind_some, z_lits, z_n_add, z_n_mul, z_lt, z_le, z_eq, z_ne1, z_1ne, z_lt1, z_1lt, z_ltT, z_ltF, z_leT, z_leF, z_eqF, z_b_0, z_b_1, ↓reduceIte, eq_self, not_true_eq_false, not_false_eq_true, and_true, true_and, and_false, false_and, Nat.add_zero, Nat.zero_add]
      rw [z_b_t c3] at hpa
      by_cases c4 : h_on I J t s i < z_ln I s
      · have := (B.qD hs).1
        change z_ln I s ≤ 12 at this
        rw [if_pos c4] at mt
        refine ⟨Y, ⟨q1, no (fun g => g.2.2.2 c4)⟩, ?_⟩
        simp (disch := omega) only [f_Ho_seekLeftOut_L35, r1, r2, sz, hi, k1, k2, c1', c2', hpa, mt, hob, z_Hor hS hP, or_true, true_or, or_false, false_or, z_b_T, z_b_F, Bool.false_eq_true, Classical.not_not, decide_eq_true_eq, z_sq, Option.bind_some, z_lits, z_n_add, z_n_mul, z_lt, z_le, z_eq, z_ne1, z_1ne, z_lt1, z_1lt, z_ltT, z_ltF, z_leT, z_leF, z_eqF, z_b_0, z_b_1, ↓reduceIte, eq_self, not_true_eq_false, not_false_eq_true, and_true, true_and, and_false, false_and, Nat.add_zero, Nat.zero_add]
      rw [if_neg c4] at mt
      rcases sx with sx | sx <;> by_cases c5 : kl < yr
      · have c5' := eq_true c5
        refine ⟨z_up Y 26 (s * 4) (Y 26 (s * 4) + z_n 1), ⟨fun a ha => by rw [z_up_r ha]; exact q1 a ha, yes 0 0 (by omega) (by omega) ⟨c1, c2, c3, c4⟩ sx (by rw [if_pos c5]) _ (by omega)⟩, ?_⟩
        simp (disch := omega) only [f_Ho_seekLeftOut_L35, r1, r2, sz, hi, k1, k2, c1', c2', c5', hpa, mt, hob, se, sx, z_Hor hS hP, z_How hS, or_true, true_or, or_false, false_or, z_b_T, z_b_F, Bool.false_eq_true, Classical.not_not, decide_eq_true_eq, z_sq, Option.bind_some, z_lits, z_n_add, z_n_mul, z_lt, z_le, z_eq, z_ne1, z_1ne, z_lt1, z_1lt, z_ltT, z_ltF, z_leT, z_leF, z_eqF, z_b_0, z_b_1, ↓reduceIte, eq_self, not_true_eq_false, not_false_eq_true, and_true, true_and, and_false, false_and, Nat.add_zero, Nat.zero_add]
      · have c5' := eq_false c5
        refine ⟨z_up Y 26 (s * 4 + 1) (Y 26 (s * 4 + 1) + z_n 1), ⟨fun a ha => by rw [z_up_r ha]; exact q1 a ha, yes 0 1 (by omega) (by omega) ⟨c1, c2, c3, c4⟩ sx (by rw [if_neg c5]) _ (by omega)⟩, ?_⟩
        simp (disch := omega) only [f_Ho_seekLeftOut_L35, r1, r2, sz, hi, k1, k2, c1', c2', c5', hpa, mt, hob, se, sx, z_Hor hS hP, z_How hS, or_true, true_or, or_false, false_or, z_b_T, z_b_F, Bool.false_eq_true, Classical.not_not, decide_eq_true_eq, z_sq, Option.bind_some, z_lits, z_n_add, z_n_mul, z_lt, z_le, z_eq, z_ne1, z_1ne, z_lt1, z_1lt, z_ltT, z_ltF, z_leT, z_leF, z_eqF, z_b_0, z_b_1, ↓reduceIte, eq_self, not_true_eq_false, not_false_eq_true, and_true, true_and, and_false, false_and, Nat.add_zero, Nat.zero_add]
      · have c5' := eq_true c5
        refine ⟨z_up Y 26 (s * 4 + 2) (Y 26 (s * 4 + 2) + z_n 1), ⟨fun a ha => by rw [z_up_r ha]; exact q1 a ha, yes 1 0 (by omega) (by omega) ⟨c1, c2, c3, c4⟩ sx (by rw [if_pos c5]) _ (by omega)⟩, ?_⟩
        simp (disch := omega) only [f_Ho_seekLeftOut_L35, r1, r2, sz, hi, k1, k2, c1', c2', c5', hpa, mt, hob, se, sx, z_Hor hS hP, z_How hS, or_true, true_or, or_false, false_or, z_b_T, z_b_F, Bool.false_eq_true, Classical.not_not, decide_eq_true_eq, z_sq, Option.bind_some, z_lits, z_n_add, z_n_mul, z_lt, z_le, z_eq, z_ne1, z_1ne, z_lt1, z_1lt, z_ltT, z_ltF, z_leT, z_leF, z_eqF, z_b_0, z_b_1, ↓reduceIte, eq_self, not_true_eq_false, not_false_eq_true, and_true, true_and, and_false, false_and, Nat.add_zero, Nat.zero_add]
      · have c5' := eq_false c5
        refine ⟨z_up Y 26 (s * 4 + (2 + 1)) (Y 26 (s * 4 + (2 + 1)) + z_n 1), ⟨fun a ha => by rw [z_up_r ha]; exact q1 a ha, yes 1 1 (by omega) (by omega) ⟨c1, c2, c3, c4⟩ sx (by rw [if_neg c5]) _ (by omega)⟩, ?_⟩
        simp (disch := omega) only [f_Ho_seekLeftOut_L35, r1, r2, sz, hi, k1, k2, c1', c2', c5', hpa, mt, hob, se, sx, z_Hor hS hP, z_How hS, Nat.add_assoc, or_true, true_or, or_false, false_or, z_b_T, z_b_F, Bool.false_eq_true, Classical.not_not, decide_eq_true_eq, z_sq, Option.bind_some, z_lits, z_n_add, z_n_mul, z_lt, z_le, z_eq, z_ne1, z_1ne, z_lt1, z_1lt, z_ltT, z_ltF, z_leT, z_leF, z_eqF, z_b_0, z_b_1, ↓reduceIte, eq_self, not_true_eq_false, not_false_eq_true, and_true, true_and, and_false, false_and, Nat.add_zero, Nat.zero_add])
    (by
      intro m Y ⟨q1, q2⟩
      have heY : z_pd Y J q (z_Ds I J t) := z_pd_of he (fun a ha => q1 a (by omega))
      have sz : Y q 0 = z_n (z_ln I t) := heY.1
      refine ⟨Y, ?_, q1, q2⟩
      simp (disch := omega) only [f_Ho_seekLeftOut_L35, r2, sz, Nat.lt_irrefl, or_true, true_or, or_false, false_or, z_b_T, z_b_F, Bool.false_eq_true, Classical.not_not, decide_eq_true_eq, z_sq, Option.bind_some, z_lits, z_n_add, z_n_mul, z_lt, z_le, z_eq, z_ne1, z_1ne, z_lt1, z_1lt, z_ltT, z_ltF, z_leT, z_leF, z_eqF, z_b_0, z_b_1, ↓reduceIte, eq_self, not_true_eq_false, not_false_eq_true, and_true, true_and, and_false, false_and, Nat.add_zero, Nat.zero_add])
    (x := X) ⟨fun _ _ => rfl, fun j hj => by rw [z_sum_0, ite_self, Nat.add_zero]; exact hb j hj⟩
end
