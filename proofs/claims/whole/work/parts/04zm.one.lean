/-! ONE: whether two lines are one person. -/
def d_fb (y : Int32) (D : z_D) (l : Nat) : Int32 := z_n 14 * y - D.2.1 1 l - z_n (z_sl (D.2.1 1 l))
def d_lb (y : Int32) (D : z_D) (l : Nat) : Int32 := z_n 14 * y - D.2.1 1 l + z_n (z_sl (D.2.1 1 l))
theorem z_wd_sl (x : Int32) : z_n (z_wd x) / z_n 2 = z_n (z_sl x) := by
  unfold z_sl z_wd
  split <;> rfl
section
variable {S : z_SH} {I : z_MI} {J : z_MJ} {P : z_MP} {K : Nat → Bool} {n : Nat × Nat}
set_option maxRecDepth 100000 in
set_option maxHeartbeats 4000000 in
theorem C_fb (hS : z_St S) (hP : z_Pt P) {s p l : Nat} {D : z_D} (hs : s < 24) (h : z_ps S P p) (hd : z_pd I J p D) (hl : l < D.1) (hD : D.1 ≤ 12) : f_Sf_firstBorn 13 (z_n s) p (z_n l) (z_h S I J P n) = some (d_fb (I 16 s) D l, z_h S I J P n) ∧ f_Sf_lastBorn 13 (z_n s) p (z_n l) (z_h S I J P n) = some (d_lb (I 16 s) D l, z_h S I J P n) := by
  have r1 := z_ps_r h
  have e1 := hd.ag hl
  have c := C_slack (n := n) h hd hl hD
  refine ⟨?_, ?_⟩
  · simp (disch := omega) only [f_Sf_firstBorn, f_Sf_yearOf, z_Shr hS hP, r1, e1, c, d_fb, or_true, true_or, or_false, false_or, z_b_T, z_b_F, Bool.false_eq_true, Classical.not_not, decide_eq_true_eq, z_sq, Option.bind_some, z_lits, z_n_add, z_n_mul, z_lt, z_le, z_eq, z_ne1, z_1ne, z_lt1, z_1lt, z_ltT, z_ltF, z_leT, z_leF, z_eqF, z_b_0, z_b_1, ↓reduceIte, eq_self, not_true_eq_false, not_false_eq_true, and_true, true_and, and_false, false_and, Nat.add_zero, Nat.zero_add]
  · simp (disch := omega) only [f_Sf_lastBorn, f_Sf_yearOf, z_Shr hS hP, r1, e1, c, d_lb, or_true, true_or, or_false, false_or, z_b_T, z_b_F, Bool.false_eq_true, Classical.not_not, decide_eq_true_eq, z_sq, Option.bind_some, z_lits, z_n_add, z_n_mul, z_lt, z_le, z_eq, z_ne1, z_1ne, z_lt1, z_1lt, z_ltT, z_ltF, z_leT, z_leF, z_eqF, z_b_0, z_b_1, ↓reduceIte, eq_self, not_true_eq_false, not_false_eq_true, and_true, true_and, and_false, false_and, Nat.add_zero, Nat.zero_add]
set_option maxRecDepth 100000 in
set_option maxHeartbeats 4000000 in
theorem M_fb {S : z_SH} {I : z_MI} {J : z_MJ} {P : z_MP} {n : Nat × Nat} (hS : z_St S) (hP : z_Pt P) {s l : Nat} (hs : s < 24) (hl : l < 12) : f_Mo_firstBorn 83 (z_n s) (z_n l) (z_h S I J P n) = some (d_fb (I 88 s) (z_Ds I J s) l, z_h S I J P n) ∧ f_Mo_lastBorn 83 (z_n s) (z_n l) (z_h S I J P n) = some (d_lb (I 88 s) (z_Ds I J s) l, z_h S I J P n) := by
  have e : (z_Ds I J s).2.1 1 l = I 92 (12 * s + l) := rfl
  refine ⟨?_, ?_⟩
  · simp (disch := omega) only [f_Mo_firstBorn, z_Mr hS hP, M_wide, z_wd_sl, d_fb, e, or_true, true_or, or_false, false_or, z_b_T, z_b_F, Bool.false_eq_true, Classical.not_not, decide_eq_true_eq, z_sq, Option.bind_some, z_lits, z_n_add, z_n_mul, z_lt, z_le, z_eq, z_ne1, z_1ne, z_lt1, z_1lt, z_ltT, z_ltF, z_leT, z_leF, z_eqF, z_b_0, z_b_1, ↓reduceIte, eq_self, not_true_eq_false, not_false_eq_true, and_true, true_and, and_false, false_and, Nat.add_zero, Nat.zero_add]
  · simp (disch := omega) only [f_Mo_lastBorn, z_Mr hS hP, M_wide, z_wd_sl, d_lb, e, or_true, true_or, or_false, false_or, z_b_T, z_b_F, Bool.false_eq_true, Classical.not_not, decide_eq_true_eq, z_sq, Option.bind_some, z_lits, z_n_add, z_n_mul, z_lt, z_le, z_eq, z_ne1, z_1ne, z_lt1, z_1lt, z_ltT, z_ltF, z_leT, z_leF, z_eqF, z_b_0, z_b_1, ↓reduceIte, eq_self, not_true_eq_false, not_false_eq_true, and_true, true_and, and_false, false_and, Nat.add_zero, Nat.zero_add]
/-- a line of E and a line of D are one -/
def d_one (y z : Int32) (D : z_D) (a : Nat) (E : z_D) (b : Nat) : Bool := decide (D.2.1 0 a = E.2.1 0 b) && decide (D.2.2 0 a = E.2.2 0 b) && d_full D a E b && decide (¬ d_lb z E b < d_fb y D a) && decide (¬ d_lb y D a < d_fb z E b)
def d_on (y z : Int32) (D : z_D) (a : Nat) (E : z_D) : Nat := z_ff (d_one y z D a E) E.1
def d_nm (x : Int64) (E : z_D) : Nat := z_ff (fun b => decide (E.2.2 0 b = x)) E.1
set_option maxRecDepth 100000 in
set_option maxHeartbeats 4000000 in
theorem C_lineOf {p : Nat} {E : z_D} {x : Int64} (h : z_ps S P p) (hd : z_pd I J p E) (hE : E.1 ≤ 12) : f_Pa_lineOf p x (z_h S I J P n) = some ((if d_nm x E < E.1 then z_n (d_nm x E) else -z_n 1), z_h S I J P n) := by
  have hle := z_ff_le (fun b => decide (E.2.2 0 b = x)) E.1
  have r1 := z_ps_r h
  have sz := hd.sz
  have key := z_run (r := some ((if d_nm x E < E.1 then Sum.inl (z_n (d_nm x E)) else Sum.inr ()), z_h S I J P n)) (fun m k => f_Pa_lineOf_L2 p x m (z_n k) (z_h S I J P n)) (d_nm x E) (by unfold d_nm; omega)
    (by
      intro m j hj
      have hjc : j < E.1 := by unfold d_nm at hj; omega
      have no := of_decide_eq_false (z_ff_no _ _ _ hj)
      have na := hd.na hjc
      simp (disch := omega) only [f_Pa_lineOf_L2, r1, sz, hjc, na, no, or_true, true_or, or_false, false_or, z_b_T, z_b_F, Bool.false_eq_true, Classical.not_not, decide_eq_true_eq, z_sq, Option.bind_some, z_lits, z_n_add, z_n_mul, z_lt, z_le, z_eq, z_ne1, z_1ne, z_lt1, z_1lt, z_ltT, z_ltF, z_leT, z_leF, z_eqF, z_b_0, z_b_1, ↓reduceIte, eq_self, not_true_eq_false, not_false_eq_true, and_true, true_and, and_false, false_and, Nat.add_zero, Nat.zero_add])
    (by
      intro m
      by_cases hs : d_nm x E < E.1
      · rw [if_pos hs]
        have is := of_decide_eq_true (z_ff_is _ _ hs)
        change E.2.2 0 (d_nm x E) = x at is
        have na := hd.na hs
        simp (disch := omega) only [f_Pa_lineOf_L2, r1, sz, hs, na, is, or_true, true_or, or_false, false_or, z_b_T, z_b_F, Bool.false_eq_true, Classical.not_not, decide_eq_true_eq, z_sq, Option.bind_some, z_lits, z_n_add, z_n_mul, z_lt, z_le, z_eq, z_ne1, z_1ne, z_lt1, z_1lt, z_ltT, z_ltF, z_leT, z_leF, z_eqF, z_b_0, z_b_1, ↓reduceIte, eq_self, not_true_eq_false, not_false_eq_true, and_true, true_and, and_false, false_and, Nat.add_zero, Nat.zero_add]
      · rw [if_neg hs]
        have hc' : d_nm x E = E.1 := by unfold d_nm at *; omega
        rw [hc']
        simp (disch := omega) only [f_Pa_lineOf_L2, r1, sz, Nat.lt_irrefl, or_true, true_or, or_false, false_or, z_b_T, z_b_F, Bool.false_eq_true, Classical.not_not, decide_eq_true_eq, z_sq, Option.bind_some, z_lits, z_n_add, z_n_mul, z_lt, z_le, z_eq, z_ne1, z_1ne, z_lt1, z_1lt, z_ltT, z_ltF, z_leT, z_leF, z_eqF, z_b_0, z_b_1, ↓reduceIte, eq_self, not_true_eq_false, not_false_eq_true, and_true, true_and, and_false, false_and, Nat.add_zero, Nat.zero_add])
  unfold f_Pa_lineOf
  rw [show (0 : Int32) = z_n 0 from rfl, key, z_sq]
  by_cases hs : d_nm x E < E.1
  · rw [if_pos hs, if_pos hs]
  · rw [if_neg hs, if_neg hs]; rfl
theorem d_on_nm {y z : Int32} {D E : z_D} {a : Nat} (hE : d_ok E) : d_on y z D a E = if d_nm (D.2.2 0 a) E < E.1 ∧ d_one y z D a E (d_nm (D.2.2 0 a) E) = true then d_nm (D.2.2 0 a) E else E.1 := by
  have hle := z_ff_le (fun b => decide (E.2.2 0 b = D.2.2 0 a)) E.1
  have hle' := z_ff_le (d_one y z D a E) E.1
  have imp : ∀ b, b < E.1 → d_one y z D a E b = true → E.2.2 0 b = D.2.2 0 a := by
    intro b _ h
    unfold d_one at h
    simp only [Bool.and_eq_true, decide_eq_true_eq] at h
    exact h.1.1.1.2.symm
  by_cases h : d_on y z D a E < E.1
  · have is : d_one y z D a E (d_on y z D a E) = true := z_ff_is _ _ h
    have nm := imp _ h is
    have e : d_nm (D.2.2 0 a) E = d_on y z D a E := by
      by_cases h2 : d_nm (D.2.2 0 a) E < E.1
      · have is2 := of_decide_eq_true (z_ff_is _ _ h2)
        change E.2.2 0 (d_nm (D.2.2 0 a) E) = _ at is2
        exact hE.2.2 _ _ h2 h (is2.trans nm.symm)
      · exfalso
        have := of_decide_eq_false (z_ff_no (fun b => decide (E.2.2 0 b = D.2.2 0 a)) E.1 (d_on y z D a E) (by unfold d_nm at h2; omega))
        exact this nm
    rw [e, if_pos ⟨h, is⟩]
  · have e : d_on y z D a E = E.1 := by unfold d_on at *; omega
    rw [if_neg, e]
    intro ⟨h1, h2⟩
    have := z_ff_no (d_one y z D a E) E.1 (d_nm (D.2.2 0 a) E) (by unfold d_on at e; rw [e]; exact h1)
    rw [h2] at this
    cases this
set_option maxRecDepth 100000 in
set_option maxHeartbeats 4000000 in
theorem C_match (hS : z_St S) (hP : z_Pt P) {s t p q a : Nat} {D E : z_D} (hs : s < 24) (ht : t < 24) (h : z_ps S P p) (k : z_ps S P q) (hd : z_pd I J p D) (he : z_pd I J q E) (ha : a < D.1) (hD : D.1 ≤ 12) (hE : d_ok E) : f_Sf_match 13 (z_n s) p (z_n a) (z_n t) q (z_h S I J P n) = some ((if d_on (I 16 s) (I 16 t) D a E < E.1 then z_n (d_on (I 16 s) (I 16 t) D a E) else -z_n 1), z_h S I J P n) := by
  have r1 := z_ps_r h
  have r2 := z_ps_r k
  have na := hd.na ha
  have se := hd.se ha
  have lo := C_lineOf (n := n) (x := D.2.2 0 a) k he hE.1
  have hob := fun I J => z_ob (I := I) (J := J) (P := P) (n := n) (s_13 hS)
  rw [d_on_nm hE]
  have is := z_ff_is (fun b => decide (E.2.2 0 b = D.2.2 0 a)) E.1
  change d_nm (D.2.2 0 a) E < E.1 → decide (E.2.2 0 (d_nm (D.2.2 0 a) E) = D.2.2 0 a) = true at is
  have hE12 := hE.1
  generalize d_nm (D.2.2 0 a) E = b at *
  by_cases hb : b < E.1
  rotate_left
  · rw [if_neg hb] at lo
    have e0 : (if b < E.1 ∧ d_one (I 16 s) (I 16 t) D a E b = true then b else E.1) = E.1 := if_neg (fun e => hb e.1)
    rw [e0, if_neg (Nat.lt_irrefl _)]
    simp (disch := omega) only [f_Sf_match, r1, r2, na, lo, or_true, true_or, or_false, false_or, z_b_T, z_b_F, Bool.false_eq_true, Classical.not_not, decide_eq_true_eq, z_sq, Option.bind_some, z_lits, z_n_add, z_n_mul, z_lt, z_le, z_eq, z_ne1, z_1ne, z_lt1, z_1lt, z_ltT, z_ltF, z_leT, z_leF, z_eqF, z_b_0, z_b_1, ↓reduceIte, eq_self, not_true_eq_false, not_false_eq_true, and_true, true_and, and_false, false_and, Nat.add_zero, Nat.zero_add]
  rw [if_pos hb] at lo
  have nm := of_decide_eq_true (is hb)
  have se2 := he.se hb
  have fu := C_isFull (n := n) h k hd he ha hb hD hE12
  obtain ⟨f1, f2⟩ := C_fb (n := n) (J := J) hS hP hs h hd ha hD
  obtain ⟨f3, f4⟩ := C_fb (n := n) (J := J) hS hP ht k he hb hE12
  have one : (d_one (I 16 s) (I 16 t) D a E b = true) = (D.2.1 0 a = E.2.1 0 b ∧ d_full D a E b = true ∧ ¬ d_lb (I 16 t) E b < d_fb (I 16 s) D a ∧ ¬ d_lb (I 16 s) D a < d_fb (I 16 t) E b) := by
    unfold d_one
    simp only [nm, decide_true, Bool.and_true, Bool.and_eq_true, decide_eq_true_eq, and_assoc]
  rcases z_tf (D.2.1 0 a = E.2.1 0 b) with h1 | h1 <;> rcases z_tf (d_full D a E b = true) with h2 | h2 <;> rcases z_tf (d_lb (I 16 t) E b < d_fb (I 16 s) D a) with h3 | h3 <;> rcases z_tf (d_lb (I 16 s) D a < d_fb (I 16 t) E b) with h4 | h4 <;> simp (disch := omega) only [f_Sf_match, r1, r2, na, lo, se, se2, fu, hob, f1, f2, f3, f4, one, hb, h1, h2, h3, h4, Nat.lt_irrefl, or_true, true_or, or_false, false_or, z_b_T, z_b_F, Bool.false_eq_true, Classical.not_not, decide_eq_true_eq, z_sq, Option.bind_some, z_lits, z_n_add, z_n_mul, z_lt, z_le, z_eq, z_ne1, z_1ne, z_lt1, z_1lt, z_ltT, z_ltF, z_leT, z_leF, z_eqF, z_b_0, z_b_1, ↓reduceIte, eq_self, not_true_eq_false, not_false_eq_true, and_true, true_and, and_false, false_and, Nat.add_zero, Nat.zero_add]
end
