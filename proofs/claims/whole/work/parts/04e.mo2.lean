/-! The reference's counts. -/
/-- the reference's rows that calls show -/
def z_cra (a : Nat) : Bool := (decide (84 ≤ a) && decide (a ≤ 99)) || a == 101 || (decide (103 ≤ a) && decide (a ≤ 107)) || (decide (125 ≤ a) && decide (a ≤ 129))
def z_cg (I : z_MI) (J : z_MJ) (I' : z_MI) (J' : z_MJ) : Prop := (∀ a, z_cra a = true → I a = I' a) ∧ I 83 16 = I' 83 16 ∧ I 83 32 = I' 83 32 ∧ ∀ a, z_cra a = true → J a = J' a
theorem z_cg.refl (I : z_MI) (J : z_MJ) : z_cg I J I J := ⟨fun _ _ => rfl, rfl, rfl, fun _ _ => rfl⟩
theorem z_cg.symm {I I' : z_MI} {J J' : z_MJ} (h : z_cg I J I' J') : z_cg I' J' I J := ⟨fun a ha => (h.1 a ha).symm, h.2.1.symm, h.2.2.1.symm, fun a ha => (h.2.2.2 a ha).symm⟩
theorem z_cg.trans {I I' I2 : z_MI} {J J' J2 : z_MJ} (h : z_cg I J I' J') (k : z_cg I' J' I2 J2) : z_cg I J I2 J2 := ⟨fun a ha => (h.1 a ha).trans (k.1 a ha), h.2.1.trans k.2.1, h.2.2.1.trans k.2.2.1, fun a ha => (h.2.2.2 a ha).trans (k.2.2.2 a ha)⟩
theorem z_cg.up {I : z_MI} {J : z_MJ} {a i : Nat} {v : Int32} (h : z_cra a = false ∧ ¬ (a = 83 ∧ (i = 16 ∨ i = 32))) : z_cg I J (z_up I a i v) J := by
  refine ⟨fun b hb => ?_, ?_, ?_, fun _ _ => rfl⟩
  · funext j
    exact (z_up_a (fun e => by rw [e, h.1] at hb; cases hb)).symm
  · exact (if_neg (fun e => h.2 ⟨e.1.symm, Or.inl e.2.symm⟩)).symm
  · exact (if_neg (fun e => h.2 ⟨e.1.symm, Or.inr e.2.symm⟩)).symm
theorem z_cg.uj {I : z_MI} {J : z_MJ} {a i : Nat} {v : Int64} (h : z_cra a = false) : z_cg I J I (z_uj J a i v) := by
  refine ⟨fun _ _ => rfl, rfl, rfl, fun b hb => ?_⟩
  funext j
  exact (z_uj_a (fun e => by rw [e, h] at hb; cases hb)).symm
theorem z_cg.ri {I : z_MI} {J : z_MJ} {a : Nat} {f : Nat → Int32} (h : z_cra a = false ∧ a ≠ 83) : z_cg I J (z_ri I a f) J := by
  refine ⟨fun b hb => ?_, ?_, ?_, fun _ _ => rfl⟩
  · funext j
    exact (if_neg (fun e => by rw [e, h.1] at hb; cases hb)).symm
  · exact (if_neg (fun e => h.2 e.symm)).symm
  · exact (if_neg (fun e => h.2 e.symm)).symm
section
variable {I I' : z_MI} {J J' : z_MJ} (h : z_cg I J I' J')
theorem z_cg.i (h : z_cg I J I' J') (a : Nat) (ha : z_cra a = true) (i : Nat) : I' a i = I a i := by rw [h.1 a ha]
theorem z_cg.j (h : z_cg I J I' J') (a : Nat) (ha : z_cra a = true) (i : Nat) : J' a i = J a i := by rw [h.2.2.2 a ha]
theorem z_th_c (h : z_cg I J I' J') (s : Nat) : z_th I' s = z_th I s := by unfold z_th; rw [h.i _ rfl, h.i _ rfl]
theorem z_ln_c (h : z_cg I J I' J') (s : Nat) : z_ln I' s = z_ln I s := by unfold z_ln; rw [h.i _ rfl]
theorem z_hb_c (h : z_cg I J I' J') (s : Nat) : z_hb I' s = z_hb I s := by unfold z_hb; rw [h.i _ rfl]
theorem z_lL_c (h : z_cg I J I' J') (k : z_lL I) : z_lL I' := fun s hs => by rw [z_ln_c h, h.i _ rfl]; exact k s hs
theorem z_lW_c (h : z_cg I J I' J') (k : z_lW I) : z_lW I' := fun s hs l hl => by
  rw [z_ln_c h] at hl
  rw [z_ln_c h, z_hb_c h, h.i _ rfl]; exact k s hs l hl
theorem z_wf_c (h : z_cg I J I' J') (s l : Nat) : z_wf I' s l = z_wf I s l := by unfold z_wf; rw [z_th_c h, z_ln_c h, h.i _ rfl]
theorem z_kin_c (h : z_cg I J I' J') (a b : Nat) : z_kin J' a b = z_kin J a b := by unfold z_kin; rw [h.j _ rfl, h.j _ rfl, h.j _ rfl, h.j _ rfl]
theorem z_so_c (h : z_cg I J I' J') (s l : Nat) : z_so I' J' s l = z_so I J s l := by unfold z_so; rw [z_kin_c h, z_hb_c h, h.i _ rfl, h.i _ rfl, h.i _ rfl]
theorem z_ot_c (h : z_cg I J I' J') (s a : Nat) (w : Int32) (b i : Nat) : z_ot I' J' s a w b i = z_ot I J s a w b i := by unfold z_ot; rw [z_kin_c h, h.i _ rfl]
end
/-- how he was TAKEN IN -/
def z_tk (I : z_MI) (J : z_MJ) (s l : Nat) : Nat :=
  if z_so I J s l = 0 ∨ z_so I J s l = 2 then
    if z_n 0 < I 95 (12 * s + l) &&& z_n 2 ∨ z_n 0 < I 95 (12 * s + z_hb I (12 * s + l)) &&& z_n 2 then 2
    else if 0 < z_sum (z_ln I s) (z_ot I J s (12 * s + l) (z_n 0) (12 * s + z_hb I (12 * s + l))) then 0 else 1
  else 0
theorem z_tk_le (I : z_MI) (J : z_MJ) (s l : Nat) : z_tk I J s l ≤ 2 := by
  unfold z_tk
  split
  · split
    · omega
    · split <;> omega
  · omega
theorem z_tk_c {I I' : z_MI} {J J' : z_MJ} (h : z_cg I J I' J') (s l : Nat) : z_tk I' J' s l = z_tk I J s l := by
  unfold z_tk
  rw [z_so_c h, z_ln_c h, z_hb_c h, h.i _ rfl, h.i _ rfl, z_sum_eq (fun i _ => z_ot_c h s _ _ _ i)]
theorem z_ot_le (I : z_MI) (J : z_MJ) (s a : Nat) (w : Int32) (b i : Nat) : z_ot I J s a w b i ≤ 1 := by unfold z_ot; split <;> omega
set_option maxRecDepth 100000 in
set_option maxHeartbeats 4000000 in
theorem M_takenOf {S : z_SH} {I : z_MI} {J : z_MJ} {P : z_MP} {n : Nat × Nat} (hS : z_St S) (hP : z_Pt P) (hL : z_lL I) {s l : Nat} (hs : s < 24) (hl : l < 12) (e : I 93 (12 * s + l) = z_n (z_hb I (12 * s + l))) (hb : z_hb I (12 * s + l) < 12) : f_Mo_takenOf 83 (z_n s) (z_n l) (z_h S I J P n) = some (z_n (z_tk I J s l), z_h S I J P n) := by
  have hk := z_so_le I J s l
  have hq := z_sum_le (z_ot I J s (12 * s + l) (z_n 0) (12 * s + z_hb I (12 * s + l))) 1 (z_ln I s) (fun i _ => z_ot_le I J s _ _ _ i)
  have h12 := (hL s (by omega)).2
  simp (disch := omega) only [f_Mo_takenOf, M_husband hS hP hs hl e, M_sortOf hS hP hs hl e hb, M_others hS hP hL hs, z_Mr hS hP, z_b_T, z_b_F, Bool.false_eq_true, Classical.not_not, decide_eq_true_eq, z_sq, Option.bind_some, z_lits, z_n_add, z_n_mul, z_lt, z_le, z_eq, z_ne1, z_1ne, z_lt1, z_1lt, z_ltT, z_ltF, z_leT, z_leF, z_eqF, z_b_0, z_b_1, ↓reduceIte, eq_self, not_true_eq_false, not_false_eq_true, and_true, true_and, and_false, false_and, Nat.add_zero, Nat.zero_add]
  unfold z_tk
  rcases z_tf (z_n 0 < I 95 (12 * s + l) &&& z_n 2) with h1 | h1 <;> rcases z_tf (z_n 0 < I 95 (12 * s + z_hb I (12 * s + l)) &&& z_n 2) with h2 | h2 <;> rcases z_tf (0 < z_sum (z_ln I s) (z_ot I J s (12 * s + l) (z_n 0) (12 * s + z_hb I (12 * s + l)))) with h3 | h3 <;> rcases z_tf (z_so I J s l = 0) with h4 | h4 <;> rcases z_tf (z_so I J s l = 2) with h5 | h5 <;> simp (disch := omega) only [h1, h2, h3, h4, h5, or_true, true_or, or_false, z_b_T, z_b_F, Bool.false_eq_true, Classical.not_not, decide_eq_true_eq, z_sq, Option.bind_some, z_lits, z_n_add, z_n_mul, z_lt, z_le, z_eq, z_ne1, z_1ne, z_lt1, z_1lt, z_ltT, z_ltF, z_leT, z_leF, z_eqF, z_b_0, z_b_1, ↓reduceIte, eq_self, not_true_eq_false, not_false_eq_true, and_true, true_and, and_false, false_and, Nat.add_zero, Nat.zero_add]
/-- a SCOPE -/
def z_wi (v : Int32) (N : Nat) : Bool := decide (¬ v < z_n 0 ∧ ¬ z_n N < v)
def z_sc (a b : Int32) : Bool := decide (a = z_n 0) || (decide (a = z_n 1) && z_wi b 5) || (decide (a = z_n 2) && z_wi b 7) || (decide (a = z_n 3) && z_wi b 1)
theorem M_wi {v : Int32} {N : Nat} {σ : q_H} : f_Mo_within v (z_n 0) (z_n N) σ = some (z_b (z_wi v N = true), σ) := by
  rw [M_within]; unfold z_wi z_b
  simp only [decide_eq_true_eq]
set_option maxRecDepth 100000 in
set_option maxHeartbeats 4000000 in
theorem M_isScope {a b : Int32} {σ : q_H} : f_Mo_isScope 83 a b σ = some (z_b (z_sc a b = true), σ) := by
  simp (disch := omega) only [f_Mo_isScope, M_wi, z_b_T, z_b_F, Bool.false_eq_true, Classical.not_not, decide_eq_true_eq, z_sq, Option.bind_some, z_lits, z_n_add, z_n_mul, z_lt, z_le, z_eq, z_ne1, z_1ne, z_lt1, z_1lt, z_ltT, z_ltF, z_leT, z_leF, z_eqF, z_b_0, z_b_1, ↓reduceIte, eq_self, not_true_eq_false, not_false_eq_true, and_true, true_and, and_false, false_and, Nat.add_zero, Nat.zero_add]
  unfold z_sc
  by_cases h0 : a = z_n 0
  · subst h0; simp (disch := omega) only [Bool.or_eq_true, Bool.and_eq_true, true_or, z_b_T, z_b_F, Bool.false_eq_true, Classical.not_not, decide_eq_true_eq, z_sq, Option.bind_some, z_lits, z_n_add, z_n_mul, z_lt, z_le, z_eq, z_ne1, z_1ne, z_lt1, z_1lt, z_ltT, z_ltF, z_leT, z_leF, z_eqF, z_b_0, z_b_1, ↓reduceIte, eq_self, not_true_eq_false, not_false_eq_true, and_true, true_and, and_false, false_and, Nat.add_zero, Nat.zero_add]
  · by_cases h1 : a = z_n 1
    · subst h1
      by_cases h : z_wi b 5 = true <;> simp (disch := omega) only [h, Bool.or_eq_true, Bool.and_eq_true, or_true, or_false, false_or, true_or, z_b_T, z_b_F, Bool.false_eq_true, Classical.not_not, decide_eq_true_eq, z_sq, Option.bind_some, z_lits, z_n_add, z_n_mul, z_lt, z_le, z_eq, z_ne1, z_1ne, z_lt1, z_1lt, z_ltT, z_ltF, z_leT, z_leF, z_eqF, z_b_0, z_b_1, ↓reduceIte, eq_self, not_true_eq_false, not_false_eq_true, and_true, true_and, and_false, false_and, Nat.add_zero, Nat.zero_add]
    · by_cases h2 : a = z_n 2
      · subst h2
        by_cases h : z_wi b 7 = true <;> simp (disch := omega) only [h, Bool.or_eq_true, Bool.and_eq_true, or_true, or_false, false_or, true_or, z_b_T, z_b_F, Bool.false_eq_true, Classical.not_not, decide_eq_true_eq, z_sq, Option.bind_some, z_lits, z_n_add, z_n_mul, z_lt, z_le, z_eq, z_ne1, z_1ne, z_lt1, z_1lt, z_ltT, z_ltF, z_leT, z_leF, z_eqF, z_b_0, z_b_1, ↓reduceIte, eq_self, not_true_eq_false, not_false_eq_true, and_true, true_and, and_false, false_and, Nat.add_zero, Nat.zero_add]
      · by_cases h3 : a = z_n 3
        · subst h3
          by_cases h : z_wi b 1 = true <;> simp (disch := omega) only [h, Bool.or_eq_true, Bool.and_eq_true, or_true, or_false, false_or, true_or, z_b_T, z_b_F, Bool.false_eq_true, Classical.not_not, decide_eq_true_eq, z_sq, Option.bind_some, z_lits, z_n_add, z_n_mul, z_lt, z_le, z_eq, z_ne1, z_1ne, z_lt1, z_1lt, z_ltT, z_ltF, z_leT, z_leF, z_eqF, z_b_0, z_b_1, ↓reduceIte, eq_self, not_true_eq_false, not_false_eq_true, and_true, true_and, and_false, false_and, Nat.add_zero, Nat.zero_add]
        · simp (disch := omega) only [h0, h1, h2, h3, Bool.or_eq_true, Bool.and_eq_true, or_false, z_b_T, z_b_F, Bool.false_eq_true, Classical.not_not, decide_eq_true_eq, z_sq, Option.bind_some, z_lits, z_n_add, z_n_mul, z_lt, z_le, z_eq, z_ne1, z_1ne, z_lt1, z_1lt, z_ltT, z_ltF, z_leT, z_leF, z_eqF, z_b_0, z_b_1, ↓reduceIte, eq_self, not_true_eq_false, not_false_eq_true, and_true, true_and, and_false, false_and, Nat.add_zero, Nat.zero_add]
def z_vi (I : z_MI) (s : Nat) : Nat := (I 87 s).toNatClampNeg
def z_lV (I : z_MI) : Prop := ∀ s, s < 24 → I 87 s = z_n (z_vi I s) ∧ z_vi I s < 6
def z_ii (I : z_MI) (s : Nat) (a b : Int32) : Bool := z_th I s && (decide (a = z_n 0) || (decide (a = z_n 1) && decide (I 87 s = b)) || (decide (a = z_n 2) && decide (I 88 s = b)) || (decide (a = z_n 3) && decide (I 84 (z_vi I s) = b)))
theorem z_vi_c {I I' : z_MI} {J J' : z_MJ} (h : z_cg I J I' J') (s : Nat) : z_vi I' s = z_vi I s := by unfold z_vi; rw [h.i _ rfl]
theorem z_lV_c {I I' : z_MI} {J J' : z_MJ} (h : z_cg I J I' J') (k : z_lV I) : z_lV I' := fun s hs => by rw [z_vi_c h, h.i _ rfl]; exact k s hs
theorem z_ii_c {I I' : z_MI} {J J' : z_MJ} (h : z_cg I J I' J') (s : Nat) (a b : Int32) : z_ii I' s a b = z_ii I s a b := by unfold z_ii; rw [z_th_c h, z_vi_c h, h.i _ rfl, h.i _ rfl, h.i _ rfl]
set_option maxRecDepth 100000 in
set_option maxHeartbeats 4000000 in
theorem M_isIn {S : z_SH} {I : z_MI} {J : z_MJ} {P : z_MP} {n : Nat × Nat} (hS : z_St S) (hP : z_Pt P) (hV : z_lV I) {s : Nat} {a b : Int32} (hs : s < 24) : f_Mo_isIn 83 (z_n s) a b (z_h S I J P n) = some (z_b (z_ii I s a b = true), z_h S I J P n) := by
  have ⟨hv, hv6⟩ := hV s hs
  unfold f_Mo_isIn
  rw [z_ob (s_83 hS), Option.bind_some, M_isThere hS hP hs, z_sq]
  unfold z_ii
  by_cases ht : z_th I s = true
  · rcases z_tf (I 87 s = b) with k1 | k1 <;> rcases z_tf (I 88 s = b) with k2 | k2 <;> rcases z_tf (I 84 (z_vi I s) = b) with k3 | k3
    all_goals
      by_cases h0 : a = z_n 0
      · subst h0; simp (disch := omega) only [ht, k1, k2, k3, Bool.or_eq_true, Bool.and_eq_true, or_true, or_false, false_or, true_or, z_Mr hS hP, z_b_T, z_b_F, Bool.false_eq_true, Classical.not_not, decide_eq_true_eq, z_sq, Option.bind_some, z_lits, z_n_add, z_n_mul, z_lt, z_le, z_eq, z_ne1, z_1ne, z_lt1, z_1lt, z_ltT, z_ltF, z_leT, z_leF, z_eqF, z_b_0, z_b_1, ↓reduceIte, eq_self, not_true_eq_false, not_false_eq_true, and_true, true_and, and_false, false_and, Nat.add_zero, Nat.zero_add]
      · by_cases h1 : a = z_n 1
        · subst h1; simp (disch := omega) only [ht, k1, k2, k3, Bool.or_eq_true, Bool.and_eq_true, or_true, or_false, false_or, true_or, z_Mr hS hP, z_b_T, z_b_F, Bool.false_eq_true, Classical.not_not, decide_eq_true_eq, z_sq, Option.bind_some, z_lits, z_n_add, z_n_mul, z_lt, z_le, z_eq, z_ne1, z_1ne, z_lt1, z_1lt, z_ltT, z_ltF, z_leT, z_leF, z_eqF, z_b_0, z_b_1, ↓reduceIte, eq_self, not_true_eq_false, not_false_eq_true, and_true, true_and, and_false, false_and, Nat.add_zero, Nat.zero_add]
        · by_cases h2 : a = z_n 2
          · subst h2; simp (disch := omega) only [ht, k1, k2, k3, Bool.or_eq_true, Bool.and_eq_true, or_true, or_false, false_or, true_or, z_Mr hS hP, z_b_T, z_b_F, Bool.false_eq_true, Classical.not_not, decide_eq_true_eq, z_sq, Option.bind_some, z_lits, z_n_add, z_n_mul, z_lt, z_le, z_eq, z_ne1, z_1ne, z_lt1, z_1lt, z_ltT, z_ltF, z_leT, z_leF, z_eqF, z_b_0, z_b_1, ↓reduceIte, eq_self, not_true_eq_false, not_false_eq_true, and_true, true_and, and_false, false_and, Nat.add_zero, Nat.zero_add]
          · by_cases h3 : a = z_n 3
            · subst h3; simp (disch := omega) only [ht, hv, k1, k2, k3, Bool.or_eq_true, Bool.and_eq_true, or_true, or_false, false_or, true_or, z_Mr hS hP, z_b_T, z_b_F, Bool.false_eq_true, Classical.not_not, decide_eq_true_eq, z_sq, Option.bind_some, z_lits, z_n_add, z_n_mul, z_lt, z_le, z_eq, z_ne1, z_1ne, z_lt1, z_1lt, z_ltT, z_ltF, z_leT, z_leF, z_eqF, z_b_0, z_b_1, ↓reduceIte, eq_self, not_true_eq_false, not_false_eq_true, and_true, true_and, and_false, false_and, Nat.add_zero, Nat.zero_add]
            · simp (disch := omega) only [ht, h0, h1, h2, h3, k1, Bool.or_eq_true, Bool.and_eq_true, or_false, z_Mr hS hP, z_b_T, z_b_F, Bool.false_eq_true, Classical.not_not, decide_eq_true_eq, z_sq, Option.bind_some, z_lits, z_n_add, z_n_mul, z_lt, z_le, z_eq, z_ne1, z_1ne, z_lt1, z_1lt, z_ltT, z_ltF, z_leT, z_leF, z_eqF, z_b_0, z_b_1, ↓reduceIte, eq_self, not_true_eq_false, not_false_eq_true, and_true, true_and, and_false, false_and, Nat.add_zero, Nat.zero_add]
  · rw [if_pos (by simp (disch := omega) only [ht, z_b_T, z_b_F, Bool.false_eq_true, Classical.not_not, decide_eq_true_eq, z_sq, Option.bind_some, z_lits, z_n_add, z_n_mul, z_lt, z_le, z_eq, z_ne1, z_1ne, z_lt1, z_1lt, z_ltT, z_ltF, z_leT, z_leF, z_eqF, z_b_0, z_b_1, ↓reduceIte, eq_self, not_true_eq_false, not_false_eq_true, and_true, true_and, and_false, false_and, Nat.add_zero, Nat.zero_add])]
    simp (disch := omega) only [ht, Bool.and_eq_true, z_b_T, z_b_F, Bool.false_eq_true, Classical.not_not, decide_eq_true_eq, z_sq, Option.bind_some, z_lits, z_n_add, z_n_mul, z_lt, z_le, z_eq, z_ne1, z_1ne, z_lt1, z_1lt, z_ltT, z_ltF, z_leT, z_leF, z_eqF, z_b_0, z_b_1, ↓reduceIte, eq_self, not_true_eq_false, not_false_eq_true, and_true, true_and, and_false, false_and, Nat.add_zero, Nat.zero_add]
/-- a line that counts: of SORTS, TAKEN IN no more than so -/
def z_cl (I : z_MI) (J : z_MJ) (so tk : Int32) (s l : Nat) : Nat :=
  if z_wf I s l = true ∧ (so >>> (z_n (z_so I J s l) &&& z_n 31)) &&& z_n 1 = z_n 1 ∧ ¬ tk < z_n (z_tk I J s l) then 1 else 0
def z_cs (I : z_MI) (J : z_MJ) (a b wo so tk : Int32) (s : Nat) : Nat :=
  if ¬ z_n s = wo ∧ z_ii I s a b = true then z_sum (z_ln I s) (z_cl I J so tk s) else 0
/-- how many MARRIAGES of a SCOPE, without one SHEET, of SORTS, TAKEN IN no more than so -/
def z_co (I : z_MI) (J : z_MJ) (a b wo so tk : Int32) : Nat := z_sum 24 (z_cs I J a b wo so tk)
theorem z_cl_c {I I' : z_MI} {J J' : z_MJ} (h : z_cg I J I' J') (so tk : Int32) (s l : Nat) : z_cl I' J' so tk s l = z_cl I J so tk s l := by unfold z_cl; rw [z_wf_c h, z_so_c h, z_tk_c h]
theorem z_cs_c {I I' : z_MI} {J J' : z_MJ} (h : z_cg I J I' J') (a b wo so tk : Int32) (s : Nat) : z_cs I' J' a b wo so tk s = z_cs I J a b wo so tk s := by unfold z_cs; rw [z_ii_c h, z_ln_c h, z_sum_eq (fun i _ => z_cl_c h so tk s i)]
theorem z_co_c {I I' : z_MI} {J J' : z_MJ} (h : z_cg I J I' J') (a b wo so tk : Int32) : z_co I' J' a b wo so tk = z_co I J a b wo so tk := z_sum_eq (fun s _ => z_cs_c h a b wo so tk s)
theorem z_cl_le (I : z_MI) (J : z_MJ) (so tk : Int32) (s l : Nat) : z_cl I J so tk s l ≤ 1 := by unfold z_cl; split <;> omega
theorem z_cs_le {I : z_MI} (J : z_MJ) (hL : z_lL I) (a b wo so tk : Int32) (s : Nat) (hs : s < 24) : z_cs I J a b wo so tk s ≤ 12 := by
  unfold z_cs
  have := z_sum_le (z_cl I J so tk s) 1 (z_ln I s) (fun i _ => z_cl_le I J so tk s i)
  have := (hL s (by omega)).2
  split <;> omega
theorem z_co_le {I : z_MI} (J : z_MJ) (hL : z_lL I) (a b wo so tk : Int32) : z_co I J a b wo so tk ≤ 288 := z_sum_le _ 12 24 (fun s hs => z_cs_le J hL a b wo so tk s hs)
set_option maxRecDepth 100000 in
set_option maxHeartbeats 4000000 in
theorem M_countL {S : z_SH} {I : z_MI} {J : z_MJ} {P : z_MP} {n : Nat × Nat} (hS : z_St S) (hP : z_Pt P) (hL : z_lL I) (hW : z_lW I) {s c : Nat} {a b wo so tk : Int32} (hs : s < 24) : f_Mo_countOf_L36 83 a b wo so tk (z_n s) q_FU (z_n c) (z_n 0) (z_h S I J P n) = some (z_n (c + z_sum (z_ln I s) (z_cl I J so tk s)), z_h S I J P n) := by
  have h12 := (hL s (by omega)).2
  have h := z_run (fun m i => f_Mo_countOf_L36 83 a b wo so tk (z_n s) m (z_n (c + z_sum i (z_cl I J so tk s))) (z_n i) (z_h S I J P n)) (z_ln I s) (r := some (z_n (c + z_sum (z_ln I s) (z_cl I J so tk s)), z_h S I J P n)) (by omega)
    (by
      intro m i hi
      have hq := z_tk_le I J s i
      simp (disch := omega) only [f_Mo_countOf_L36, (hL s (by omega)).1, M_isWife hS hP hL hW hs (show i ≤ 11 by omega), z_sum_s, Nat.add_assoc, z_Mr hS hP, z_b_T, z_b_F, Bool.false_eq_true, Classical.not_not, decide_eq_true_eq, z_sq, Option.bind_some, z_lits, z_n_add, z_n_mul, z_lt, z_le, z_eq, z_ne1, z_1ne, z_lt1, z_1lt, z_ltT, z_ltF, z_leT, z_leF, z_eqF, z_b_0, z_b_1, ↓reduceIte, eq_self, not_true_eq_false, not_false_eq_true, and_true, true_and, and_false, false_and, Nat.add_zero, Nat.zero_add]
      unfold z_cl
      by_cases h1 : z_wf I s i = true
      · obtain ⟨-, -, -, e, hb⟩ := z_wfW hW hL hs h1
        simp (disch := omega) only [h1, M_sortOf hS hP hs (show i < 12 by omega) e (by omega), M_takenOf hS hP hL hs (show i < 12 by omega) e (by omega), z_Mr hS hP, z_b_T, z_b_F, Bool.false_eq_true, Classical.not_not, decide_eq_true_eq, z_sq, Option.bind_some, z_lits, z_n_add, z_n_mul, z_lt, z_le, z_eq, z_ne1, z_1ne, z_lt1, z_1lt, z_ltT, z_ltF, z_leT, z_leF, z_eqF, z_b_0, z_b_1, ↓reduceIte, eq_self, not_true_eq_false, not_false_eq_true, and_true, true_and, and_false, false_and, Nat.add_zero, Nat.zero_add]
        rcases z_tf ((so >>> (z_n (z_so I J s i) &&& z_n 31)) &&& z_n 1 = z_n 1) with h2 | h2 <;> rcases z_tf (tk < z_n (z_tk I J s i)) with h3 | h3 <;> simp (disch := omega) only [h2, h3, z_b_T, z_b_F, Bool.false_eq_true, Classical.not_not, decide_eq_true_eq, z_sq, Option.bind_some, z_lits, z_n_add, z_n_mul, z_lt, z_le, z_eq, z_ne1, z_1ne, z_lt1, z_1lt, z_ltT, z_ltF, z_leT, z_leF, z_eqF, z_b_0, z_b_1, ↓reduceIte, eq_self, not_true_eq_false, not_false_eq_true, and_true, true_and, and_false, false_and, Nat.add_zero, Nat.zero_add]
      · simp (disch := omega) only [h1, z_b_T, z_b_F, Bool.false_eq_true, Classical.not_not, decide_eq_true_eq, z_sq, Option.bind_some, z_lits, z_n_add, z_n_mul, z_lt, z_le, z_eq, z_ne1, z_1ne, z_lt1, z_1lt, z_ltT, z_ltF, z_leT, z_leF, z_eqF, z_b_0, z_b_1, ↓reduceIte, eq_self, not_true_eq_false, not_false_eq_true, and_true, true_and, and_false, false_and, Nat.add_zero, Nat.zero_add])
    (by
      intro m
      simp (disch := omega) only [f_Mo_countOf_L36, (hL s (by omega)).1, z_Mr hS hP, z_b_T, z_b_F, Bool.false_eq_true, Classical.not_not, decide_eq_true_eq, z_sq, Option.bind_some, z_lits, z_n_add, z_n_mul, z_lt, z_le, z_eq, z_ne1, z_1ne, z_lt1, z_1lt, z_ltT, z_ltF, z_leT, z_leF, z_eqF, z_b_0, z_b_1, ↓reduceIte, eq_self, not_true_eq_false, not_false_eq_true, and_true, true_and, and_false, false_and, Nat.add_zero, Nat.zero_add])
  simp only [z_sum_0, Nat.add_zero] at h
  exact h
set_option maxRecDepth 100000 in
set_option maxHeartbeats 4000000 in
theorem M_countOf {S : z_SH} {I : z_MI} {J : z_MJ} {P : z_MP} {n : Nat × Nat} (hS : z_St S) (hP : z_Pt P) (hL : z_lL I) (hW : z_lW I) (hV : z_lV I) {a b wo so tk : Int32} : f_Mo_countOf 83 a b wo so tk (z_h S I J P n) = some (z_n (z_co I J a b wo so tk), z_h S I J P n) := by
  have h := z_run (fun m i => f_Mo_countOf_L6 83 a b wo so tk m (z_n (z_sum i (z_cs I J a b wo so tk))) (z_n i) (z_h S I J P n)) 24 (r := some (z_n (z_co I J a b wo so tk), z_h S I J P n)) (by omega)
    (by
      intro m i hi
      simp (disch := omega) only [f_Mo_countOf_L6, M_isIn hS hP hV hi, M_countL hS hP hL hW hi, z_sum_s, Nat.add_assoc, z_Mr hS hP, z_b_T, z_b_F, Bool.false_eq_true, Classical.not_not, decide_eq_true_eq, z_sq, Option.bind_some, z_lits, z_n_add, z_n_mul, z_lt, z_le, z_eq, z_ne1, z_1ne, z_lt1, z_1lt, z_ltT, z_ltF, z_leT, z_leF, z_eqF, z_b_0, z_b_1, ↓reduceIte, eq_self, not_true_eq_false, not_false_eq_true, and_true, true_and, and_false, false_and, Nat.add_zero, Nat.zero_add]
      unfold z_cs
      rcases z_tf (z_n i = wo) with h1 | h1 <;> by_cases h2 : z_ii I i a b = true <;> simp (disch := omega) only [h1, h2, z_b_T, z_b_F, Bool.false_eq_true, Classical.not_not, decide_eq_true_eq, z_sq, Option.bind_some, z_lits, z_n_add, z_n_mul, z_lt, z_le, z_eq, z_ne1, z_1ne, z_lt1, z_1lt, z_ltT, z_ltF, z_leT, z_leF, z_eqF, z_b_0, z_b_1, ↓reduceIte, eq_self, not_true_eq_false, not_false_eq_true, and_true, true_and, and_false, false_and, Nat.add_zero, Nat.zero_add])
    (by
      intro m
      simp (disch := omega) only [f_Mo_countOf_L6, z_Mr hS hP, z_b_T, z_b_F, Bool.false_eq_true, Classical.not_not, decide_eq_true_eq, z_sq, Option.bind_some, z_lits, z_n_add, z_n_mul, z_lt, z_le, z_eq, z_ne1, z_1ne, z_lt1, z_1lt, z_ltT, z_ltF, z_leT, z_leF, z_eqF, z_b_0, z_b_1, ↓reduceIte, eq_self, not_true_eq_false, not_false_eq_true, and_true, true_and, and_false, false_and, Nat.add_zero, Nat.zero_add]
      rfl)
  simp only [z_sum_0] at h
  simp (disch := omega) only [f_Mo_countOf, h, z_b_T, z_b_F, Bool.false_eq_true, Classical.not_not, decide_eq_true_eq, z_sq, Option.bind_some, z_lits, z_n_add, z_n_mul, z_lt, z_le, z_eq, z_ne1, z_1ne, z_lt1, z_1lt, z_ltT, z_ltF, z_leT, z_leF, z_eqF, z_b_0, z_b_1, ↓reduceIte, eq_self, not_true_eq_false, not_false_eq_true, and_true, true_and, and_false, false_and, Nat.add_zero, Nat.zero_add]
