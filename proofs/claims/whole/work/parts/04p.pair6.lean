/-! mover. -/
/-- fractions compared as they are, in lowest terms or not -/
theorem z_cmp {a b c d : Nat} (hb : 0 < b) (hd : 0 < d) : (c / Nat.gcd c d * (b / Nat.gcd a b) < a / Nat.gcd a b * (d / Nat.gcd c d)) = (c * b < a * d) := by
  have g1 : 0 < Nat.gcd a b := Nat.gcd_pos_of_pos_right _ hb
  have g2 : 0 < Nat.gcd c d := Nat.gcd_pos_of_pos_right _ hd
  have ea : a / Nat.gcd a b * Nat.gcd a b = a := Nat.div_mul_cancel (Nat.gcd_dvd_left a b)
  have eb : b / Nat.gcd a b * Nat.gcd a b = b := Nat.div_mul_cancel (Nat.gcd_dvd_right a b)
  have ec : c / Nat.gcd c d * Nat.gcd c d = c := Nat.div_mul_cancel (Nat.gcd_dvd_left c d)
  have ed : d / Nat.gcd c d * Nat.gcd c d = d := Nat.div_mul_cancel (Nat.gcd_dvd_right c d)
  generalize Nat.gcd a b = g at *
  generalize Nat.gcd c d = k at *
  generalize a / g = a' at *
  generalize b / g = b' at *
  generalize c / k = c' at *
  generalize d / k = d' at *
  have e1 : c * b = (c' * b') * (k * g) := by rw [← ec, ← eb, Nat.mul_mul_mul_comm]
  have e2 : a * d = (a' * d') * (k * g) := by rw [← ea, ← ed, Nat.mul_mul_mul_comm, Nat.mul_comm g k]
  rw [e1, e2]
  exact propext ⟨fun h => Nat.mul_lt_mul_of_pos_right h (Nat.mul_pos g2 g1), fun h => Nat.lt_of_mul_lt_mul_right h⟩
section
variable {S : z_SH} {I : z_MI} {J : z_MJ} {P : z_MP} {K : Nat → Bool} {n : Nat × Nat}
theorem z_abs {A : Int} (h : A.natAbs ≤ 1000000000000000000) : (if (0 : Int64) < z_z A then z_z A else -z_z A) = z_z (A.natAbs : Nat) := by
  have k := z_z_lt (a := 0) (b := A) (by omega) (by omega) (by omega) (by omega)
  by_cases h : 0 < A
  · rw [if_pos (by rw [z_z0.1, k]; exact h)]; congr 1; omega
  · rw [if_neg (by rw [z_z0.1, k]; exact h), z_z_neg]; congr 1; omega
theorem z_absl {A : Int} (h : A.natAbs ≤ 1000000000000000000) : (if z_z A < (0 : Int64) then -z_z A else z_z A) = z_z (A.natAbs : Nat) := by
  have k := z_z_lt (a := A) (b := 0) (by omega) (by omega) (by omega) (by omega)
  by_cases h : A < 0
  · rw [if_pos (by rw [z_z0.1, k]; exact h), z_z_neg]; congr 1; omega
  · rw [if_neg (by rw [z_z0.1, k]; exact h)]; congr 1; omega
set_option maxRecDepth 100000 in
set_option maxHeartbeats 4000000 in
theorem C_farther {x y : Nat} {A C : Int} {b d : Nat} (h : z_rt S J x A b) (k : z_rt S J y C d) (hb : 0 < b) (hd : 0 < d) (m1 : A.natAbs ≤ 1000000) (m2 : b ≤ 1000000) (m3 : C.natAbs ≤ 1000000) (m4 : d ≤ 1000000) : f_Ra_isFartherThan x y (z_h S I J P n) = some (z_b (C.natAbs * b < A.natAbs * d), z_h S I J P n) := by
  have r1 : q_gl' (q_gf (z_h S I J P n) 10 x 0) = some (J x 0) := z_gl h.1 rfl
  have r2 : q_gl' (q_gf (z_h S I J P n) 10 y 1) = some (J y 1) := z_gl k.1 rfl
  have r3 : q_gl' (q_gf (z_h S I J P n) 10 y 0) = some (J y 0) := z_gl k.1 rfl
  have r4 : q_gl' (q_gf (z_h S I J P n) 10 x 1) = some (J x 1) := z_gl h.1 rfl
  have a1 : (A.tdiv (Nat.gcd A.natAbs b)).natAbs = A.natAbs / Nat.gcd A.natAbs b := by rw [Int.natAbs_tdiv]; rfl
  have a2 : (C.tdiv (Nat.gcd C.natAbs d)).natAbs = C.natAbs / Nat.gcd C.natAbs d := by rw [Int.natAbs_tdiv]; rfl
  have l1 : A.natAbs / Nat.gcd A.natAbs b ≤ 1000000 := Nat.le_trans (Nat.div_le_self _ _) m1
  have l2 : b / Nat.gcd A.natAbs b ≤ 1000000 := Nat.le_trans (Nat.div_le_self _ _) m2
  have l3 : C.natAbs / Nat.gcd C.natAbs d ≤ 1000000 := Nat.le_trans (Nat.div_le_self _ _) m3
  have l4 : d / Nat.gcd C.natAbs d ≤ 1000000 := Nat.le_trans (Nat.div_le_self _ _) m4
  have e1 := z_abs (A := A.tdiv (Nat.gcd A.natAbs b)) (by omega)
  have e2 := z_abs (A := C.tdiv (Nat.gcd C.natAbs d)) (by omega)
  unfold f_Ra_isFartherThan
  rw [r1, Option.bind_some, r2, Option.bind_some, r3, Option.bind_some, r4, Option.bind_some, h.2.1, h.2.2, k.2.1, k.2.2, e1, e2, z_z_mul, z_z_mul, a1, a2]
  have p1 : C.natAbs / Nat.gcd C.natAbs d * (b / Nat.gcd A.natAbs b) ≤ 1000000 * 1000000 := Nat.mul_le_mul l3 l2
  have p2 : A.natAbs / Nat.gcd A.natAbs b * (d / Nat.gcd C.natAbs d) ≤ 1000000 * 1000000 := Nat.mul_le_mul l1 l4
  have e3 : (z_z ((C.natAbs / Nat.gcd C.natAbs d : Nat) * (b / Nat.gcd A.natAbs b : Nat)) < z_z ((A.natAbs / Nat.gcd A.natAbs b : Nat) * (d / Nat.gcd C.natAbs d : Nat))) = (C.natAbs * b < A.natAbs * d) := by
    rw [← Int.natCast_mul, ← Int.natCast_mul, z_z_lt (by omega) (by omega) (by omega) (by omega), ← z_cmp hb hd]
    exact propext ⟨fun h => by omega, fun h => by omega⟩
  simp only [e3]
  unfold z_b
  by_cases q : C.natAbs * b < A.natAbs * d
  · rw [if_pos q, if_pos q]; rfl
  · rw [if_neg q, if_neg q]; rfl
/-- the SHEET that MOVES the most of the first ones -/
def z_bm (I : z_MI) (J : z_MJ) : Nat → Option Nat
  | 0 => none
  | i + 1 => if z_th I i = true ∧ ¬ z_mvb I J i = 0 then match z_bm I J i with
      | none => some i
      | some j => if (z_mva I J j).natAbs * z_mvb I J i < (z_mva I J i).natAbs * z_mvb I J j then some i else some j
    else z_bm I J i
def z_on (o : Option Nat) : Int32 := match o with
  | none => -z_n 1
  | some j => z_n j
theorem z_bm_lt (I : z_MI) (J : z_MJ) : ∀ i j, z_bm I J i = some j → j < i ∧ ¬ z_mvb I J j = 0
  | 0, j, h => by cases h
  | i + 1, j, h => by
    have ih := z_bm_lt I J i
    rw [z_bm] at h
    split at h
    · rename_i h1
      cases e : z_bm I J i with
      | none => rw [e] at h; cases h; exact ⟨by omega, h1.2⟩
      | some k =>
        rw [e] at h
        simp only at h
        split at h
        · cases h; exact ⟨by omega, h1.2⟩
        · cases h; exact ⟨by have := (ih j e).1; omega, (ih j e).2⟩
    · exact ⟨by have := (ih j h).1; omega, (ih j h).2⟩
set_option maxRecDepth 100000 in
set_option maxHeartbeats 4000000 in
theorem C_mover (B : z_B S I J P K n.1) : ∃ S' I' J' P' n', f_Rs_mover 8 (z_h S I J P n) = some (z_on (z_bm I J 24), z_h S' I' J' P' n') ∧ z_ag n.1 z_nil S I J P S' I' J' P' ∧ (n.1 ≤ n'.1 ∧ n'.1 ≤ n.1 + 26 ∧ n'.2 ≤ n.2 + 64) := by
  have hS := B.qS
  have hP := B.qP
  have hn := B.qn
  obtain ⟨S1, I1, J1, P1, h1, h2, h3, hS1, hP1, cg1⟩ := C_gat B (a := z_n 0) (b := z_n 0) rfl
  have key := z_runI (fun m i (X : z_SH × z_MI × z_MJ × z_MP × (Nat × Nat) × Option Nat) => f_Rs_mover_L14 8 n.1 m (z_on (z_bm I J i)) X.2.2.2.2.2 (z_n i) (z_h X.1 X.2.1 X.2.2.1 X.2.2.2.1 X.2.2.2.2.1)) 24
    (fun i X => z_ag (n.1 + 2) z_nil S1 I1 J1 P1 X.1 X.2.1 X.2.2.1 X.2.2.2.1 ∧ (n.1 + 2 ≤ X.2.2.2.2.1.1 ∧ X.2.2.2.2.1.1 ≤ n.1 + 2 + i ∧ X.2.2.2.2.1.2 ≤ n.2 + 16 + 2 * i) ∧ match z_bm I J i with
      | none => X.2.2.2.2.2 = none
      | some j => ∃ x, X.2.2.2.2.2 = some x ∧ x < X.2.2.2.2.1.1 ∧ z_rt X.1 X.2.2.1 x (z_mva I J j) (z_mvb I J j))
    (fun r => ∃ S' I' J' P' n', r = some (z_on (z_bm I J 24), z_h S' I' J' P' n') ∧ z_ag (n.1 + 2) z_nil S1 I1 J1 P1 S' I' J' P' ∧ (n.1 + 2 ≤ n'.1 ∧ n'.1 ≤ n.1 + 26 ∧ n'.2 ≤ n.2 + 64)) (by omega)
    (by
      intro m i ⟨S2, I2, J2, P2, n2, v⟩ hi ⟨g, b, q⟩
      simp only at g b q ⊢
      have G := h2.trans (by simp) g
      have B2 : z_B S2 I2 J2 P2 K n2.1 := B.mono z_keep0 G (by omega)
      have cg2 := G.cg (K := K) z_keep0 B.2.2.1.2 hn
      have ty := h3.go g (by omega)
      obtain ⟨r, S3, I3, J3, P3, n3, k1, k2, k3, k4⟩ := C_moveOf (n := n2) B2 cg2 ty hi
      have g3 := g.trans b.1 k2
      have ob8 := C_gat8 (I := I2) (J := J2) (P := P2) (n := n2) B2.qS
      rcases k4 with ⟨h, rfl⟩ | ⟨t1, t2, x, rfl, t3, t4⟩
      · have e : z_bm I J (i + 1) = z_bm I J i := by
          rw [z_bm, if_neg]
          rintro ⟨e1, e2⟩
          rcases h with h | h
          · rw [e1] at h; cases h
          · exact e2 h
        refine ⟨(S3, I3, J3, P3, n3, v), ⟨g3, ⟨by simp only; omega, by simp only; omega, by simp only; omega⟩, ?_⟩, ?_⟩
        · simp only [e]
          cases eb : z_bm I J i with
          | none => rw [eb] at q; exact q
          | some j =>
            rw [eb] at q
            obtain ⟨y, q1, q2, q3⟩ := q
            exact ⟨y, q1, by omega, (k2 y q2).1.1.trans q3.1, by rw [((k2 y q2).2 rfl).2]; exact q3.2.1, by rw [((k2 y q2).2 rfl).2]; exact q3.2.2⟩
        · simp (disch := omega) only [f_Rs_mover_L14, ob8, k1, e, or_true, true_or, or_false, false_or, z_b_T, z_b_F, Bool.false_eq_true, Classical.not_not, decide_eq_true_eq, z_sq, Option.bind_some, z_lits, z_n_add, z_n_mul, z_lt, z_le, z_eq, z_ne1, z_1ne, z_lt1, z_1lt, z_ltT, z_ltF, z_leT, z_leF, z_eqF, z_b_0, z_b_1, ↓reduceIte, eq_self, not_true_eq_false, not_false_eq_true, and_true, true_and, and_false, false_and, Nat.add_zero, Nat.zero_add]
      · have hx : x < n3.1 := t3.2
        cases eb : z_bm I J i with
        | none =>
          have e : z_bm I J (i + 1) = some i := by
            rw [z_bm, if_pos ⟨t1, by omega⟩, eb]
          rw [eb] at q
          refine ⟨(S3, I3, J3, P3, n3, some x), ⟨g3, ⟨by simp only; omega, by simp only; omega, by simp only; omega⟩, ?_⟩, ?_⟩
          · simp only [e]
            exact ⟨x, rfl, hx, t4⟩
          · simp only at q
            simp (disch := omega) only [f_Rs_mover_L14, ob8, k1, e, q, z_on, or_true, true_or, or_false, false_or, z_b_T, z_b_F, Bool.false_eq_true, Classical.not_not, decide_eq_true_eq, z_sq, Option.bind_some, z_lits, z_n_add, z_n_mul, z_lt, z_le, z_eq, z_ne1, z_1ne, z_lt1, z_1lt, z_ltT, z_ltF, z_leT, z_leF, z_eqF, z_b_0, z_b_1, ↓reduceIte, eq_self, not_true_eq_false, not_false_eq_true, and_true, true_and, and_false, false_and, Nat.add_zero, Nat.zero_add]
        | some j =>
          rw [eb] at q
          obtain ⟨y, q1, q2, q3⟩ := q
          have q4 : z_rt S3 J3 y (z_mva I J j) (z_mvb I J j) := ⟨(k2 y q2).1.1.trans q3.1, by rw [((k2 y q2).2 rfl).2]; exact q3.2.1, by rw [((k2 y q2).2 rfl).2]; exact q3.2.2⟩
          obtain ⟨j1, j2⟩ := z_bm_lt I J i j eb
          have fa := C_farther (I := I3) (P := P3) (n := n3) t4 q4 t2 (by omega) (by have := z_mva_le B i; omega) (by have := z_mvb_le B i; omega) (by have := z_mva_le B j; omega) (by have := z_mvb_le B j; omega)
          have obx : q_ob (z_h S3 I3 J3 P3 n3) 10 x = some _ := z_ob t4.1
          by_cases hf : (z_mva I J j).natAbs * z_mvb I J i < (z_mva I J i).natAbs * z_mvb I J j
          · have e : z_bm I J (i + 1) = some i := by
              rw [z_bm, if_pos ⟨t1, by omega⟩, eb]
              exact if_pos hf
            refine ⟨(S3, I3, J3, P3, n3, some x), ⟨g3, ⟨by simp only; omega, by simp only; omega, by simp only; omega⟩, ?_⟩, ?_⟩
            · simp only [e]
              exact ⟨x, rfl, hx, t4⟩
            · subst q1
              simp (disch := omega) only [f_Rs_mover_L14, ob8, k1, e, z_on, obx, fa, hf, or_true, true_or, or_false, false_or, z_b_T, z_b_F, Bool.false_eq_true, Classical.not_not, decide_eq_true_eq, z_sq, Option.bind_some, z_lits, z_n_add, z_n_mul, z_lt, z_le, z_eq, z_ne1, z_1ne, z_lt1, z_1lt, z_ltT, z_ltF, z_leT, z_leF, z_eqF, z_b_0, z_b_1, ↓reduceIte, eq_self, not_true_eq_false, not_false_eq_true, and_true, true_and, and_false, false_and, Nat.add_zero, Nat.zero_add]
          · have e : z_bm I J (i + 1) = some j := by
              rw [z_bm, if_pos ⟨t1, by omega⟩, eb]
              exact if_neg hf
            refine ⟨(S3, I3, J3, P3, n3, some y), ⟨g3, ⟨by simp only; omega, by simp only; omega, by simp only; omega⟩, ?_⟩, ?_⟩
            · simp only [e]
              exact ⟨y, rfl, by omega, q4⟩
            · subst q1
              simp (disch := omega) only [f_Rs_mover_L14, ob8, k1, e, z_on, obx, fa, hf, or_true, true_or, or_false, false_or, z_b_T, z_b_F, Bool.false_eq_true, Classical.not_not, decide_eq_true_eq, z_sq, Option.bind_some, z_lits, z_n_add, z_n_mul, z_lt, z_le, z_eq, z_ne1, z_1ne, z_lt1, z_1lt, z_ltT, z_ltF, z_leT, z_leF, z_eqF, z_b_0, z_b_1, ↓reduceIte, eq_self, not_true_eq_false, not_false_eq_true, and_true, true_and, and_false, false_and, Nat.add_zero, Nat.zero_add])
    (by
      intro m ⟨S2, I2, J2, P2, n2, v⟩ ⟨g, b, q⟩
      simp only at g b q ⊢
      refine ⟨S2, I2, J2, P2, n2, ?_, g, by omega, by omega, by omega⟩
      simp (disch := omega) only [f_Rs_mover_L14, or_true, true_or, or_false, false_or, z_b_T, z_b_F, Bool.false_eq_true, Classical.not_not, decide_eq_true_eq, z_sq, Option.bind_some, z_lits, z_n_add, z_n_mul, z_lt, z_le, z_eq, z_ne1, z_1ne, z_lt1, z_1lt, z_ltT, z_ltF, z_leT, z_leF, z_eqF, z_b_0, z_b_1, ↓reduceIte, eq_self, not_true_eq_false, not_false_eq_true, and_true, true_and, and_false, false_and, Nat.add_zero, Nat.zero_add])
    (x := (S1, I1, J1, P1, (n.1 + 2, n.2 + 16), none)) ⟨z_ag.refl _ _ _ _ _ _, ⟨by simp, by simp, by simp⟩, rfl⟩
  obtain ⟨S', I', J', P', n', e1, e2, e3⟩ := key
  refine ⟨S', I', J', P', n', ?_, h2.trans (by simp) e2, by omega, by omega, by omega⟩
  unfold f_Rs_mover
  rw [C_gat8 hS, Option.bind_some]
  have e0 : (-1 : Int32) = z_on (z_bm I J 0) := rfl
  show q_sq (f_Rs_gather 8 (z_n 0) (z_n 0) _) _ = _
  rw [h1, z_sq, e0]
  show q_sq (f_Rs_mover_L14 8 n.1 q_FU (z_on (z_bm I J 0)) none (z_n 0) (z_h S1 I1 J1 P1 (n.1 + 2, n.2 + 16))) _ = _
  simp only at e1
  rw [e1, z_sq]
set_option maxRecDepth 100000 in
set_option maxHeartbeats 4000000 in
theorem X_mover (B : z_B S I J P K n.1) : z_pr (f_Rs_mover 8) (f_Mo_mover 83) S I J P K n := by
  obtain ⟨S', I', J', P', n', h1, g, b⟩ := C_mover B
  have hn := B.qn
  have hS := B.qS.mono g hn
  have hP := B.qP.mono g hn
  have cg := g.cg (K := K) z_keep0 B.2.2.1.2 hn
  have m0 : z_mf I' J' (z_up I' 83 0 (z_n 0)) J' := z_mf.up rfl
  have r5 : ∀ I J P n, q_gl' (q_gf (z_h S' I J P n) 12 83 25) = some (J 83 25) := fun _ _ _ _ => z_gl (s_83 hS) rfl
  have r6 : ∀ I J P n, q_gl' (q_gf (z_h S' I J P n) 12 83 26) = some (J 83 26) := fun _ _ _ _ => z_gl (s_83 hS) rfl
  have key := z_runI (fun m i (X : z_MJ) => f_Mo_mover_L15 83 m (z_on (z_bm I J i)) (match z_bm I J i with | none => z_z 0 | some j => z_z ((z_mva I J j).natAbs : Nat)) (match z_bm I J i with | none => z_z 1 | some j => z_z (z_mvb I J j : Nat)) (z_n i) (z_h S' (z_up I' 83 0 (z_n 0)) X P' n')) 24
    (fun i X => z_mf (z_up I' 83 0 (z_n 0)) J' (z_up I' 83 0 (z_n 0)) X)
    (fun r => ∃ X, r = some (z_on (z_bm I J 24), z_h S' (z_up I' 83 0 (z_n 0)) X P' n') ∧ z_mf (z_up I' 83 0 (z_n 0)) J' (z_up I' 83 0 (z_n 0)) X) (by omega)
    (by
      intro m i X hi q
      have mv := M_moves B hS hP (cg.trans (m0.cg.trans q.cg)) (n' := n') hi
      by_cases hm : z_th I i = true ∧ ¬ z_mvb I J i = 0
      · rw [if_pos hm] at mv
        have u : z_uj (z_uj X 83 25 (z_z (z_mva I J i))) 83 26 (z_z (z_mvb I J i : Nat)) 83 25 = z_z (z_mva I J i) := by rw [z_uj_i (by omega), z_uj_s]
        have hle := z_mva_le B i
        have hlb := z_mvb_le B i
        have ea := z_absl (A := z_mva I J i) (by omega)
        have ea' : ∀ σ : q_H, (if z_z (z_mva I J i) < z_z 0 then some (-z_z (z_mva I J i), σ) else some (z_z (z_mva I J i), σ)) = some (z_z ((z_mva I J i).natAbs : Nat), σ) := by
          intro σ
          rw [← ea]
          have e0 : (0 : Int64) = z_z 0 := rfl
          rw [e0]
          split <;> rfl
        refine ⟨z_uj (z_uj X 83 25 (z_z (z_mva I J i))) 83 26 (z_z (z_mvb I J i : Nat)), q.trans ((z_mf.uj rfl).trans (z_mf.uj rfl)), ?_⟩
        cases eb : z_bm I J i with
        | none =>
          have e : z_bm I J (i + 1) = some i := by rw [z_bm, if_pos hm, eb]
          have q0 : (-z_n 1 < z_n 0) = True := by decide
          simp (disch := omega) only [f_Mo_mover_L15, z_ob (s_83 hS), mv, r5, r6, u, z_uj_s, ea', e, z_on, z_z0, q0, or_true, true_or, or_false, false_or, z_b_T, z_b_F, Bool.false_eq_true, Classical.not_not, decide_eq_true_eq, z_sq, Option.bind_some, z_lits, z_n_add, z_n_mul, z_lt, z_le, z_eq, z_ne1, z_1ne, z_lt1, z_1lt, z_ltT, z_ltF, z_leT, z_leF, z_eqF, z_b_0, z_b_1, ↓reduceIte, eq_self, not_true_eq_false, not_false_eq_true, and_true, true_and, and_false, false_and, Nat.add_zero, Nat.zero_add]
        | some j =>
          obtain ⟨j1, j2⟩ := z_bm_lt I J i j eb
          have hle2 := z_mva_le B j
          have hlb2 := z_mvb_le B j
          have p1 : (z_mva I J j).natAbs * z_mvb I J i ≤ 82944 * 82944 := Nat.mul_le_mul hle2 hlb
          have p2 : (z_mva I J i).natAbs * z_mvb I J j ≤ 82944 * 82944 := Nat.mul_le_mul hle hlb2
          have e3 : (z_z ((z_mva I J j).natAbs : Nat) * z_z (z_mvb I J i : Nat) < z_z ((z_mva I J i).natAbs : Nat) * z_z (z_mvb I J j : Nat)) = ((z_mva I J j).natAbs * z_mvb I J i < (z_mva I J i).natAbs * z_mvb I J j) := by
            rw [z_z_mul, z_z_mul, ← Int.natCast_mul, ← Int.natCast_mul, z_z_lt (by omega) (by omega) (by omega) (by omega)]
            exact propext ⟨fun h => by omega, fun h => by omega⟩
          by_cases hf : (z_mva I J j).natAbs * z_mvb I J i < (z_mva I J i).natAbs * z_mvb I J j
          · have e : z_bm I J (i + 1) = some i := by
              rw [z_bm, if_pos hm, eb]
              exact if_pos hf
            simp (disch := omega) only [f_Mo_mover_L15, z_ob (s_83 hS), mv, r5, r6, u, z_uj_s, ea', e, z_on, z_z0, e3, hf, or_true, true_or, or_false, false_or, z_b_T, z_b_F, Bool.false_eq_true, Classical.not_not, decide_eq_true_eq, z_sq, Option.bind_some, z_lits, z_n_add, z_n_mul, z_lt, z_le, z_eq, z_ne1, z_1ne, z_lt1, z_1lt, z_ltT, z_ltF, z_leT, z_leF, z_eqF, z_b_0, z_b_1, ↓reduceIte, eq_self, not_true_eq_false, not_false_eq_true, and_true, true_and, and_false, false_and, Nat.add_zero, Nat.zero_add]
          · have e : z_bm I J (i + 1) = some j := by
              rw [z_bm, if_pos hm, eb]
              exact if_neg hf
            simp (disch := omega) only [f_Mo_mover_L15, z_ob (s_83 hS), mv, r5, r6, u, z_uj_s, ea', e, z_on, z_z0, e3, hf, or_true, true_or, or_false, false_or, z_b_T, z_b_F, Bool.false_eq_true, Classical.not_not, decide_eq_true_eq, z_sq, Option.bind_some, z_lits, z_n_add, z_n_mul, z_lt, z_le, z_eq, z_ne1, z_1ne, z_lt1, z_1lt, z_ltT, z_ltF, z_leT, z_leF, z_eqF, z_b_0, z_b_1, ↓reduceIte, eq_self, not_true_eq_false, not_false_eq_true, and_true, true_and, and_false, false_and, Nat.add_zero, Nat.zero_add]
      · rw [if_neg hm] at mv
        have e : z_bm I J (i + 1) = z_bm I J i := by rw [z_bm, if_neg hm]
        refine ⟨X, q, ?_⟩
        simp (disch := omega) only [f_Mo_mover_L15, z_ob (s_83 hS), mv, e, or_true, true_or, or_false, false_or, z_b_T, z_b_F, Bool.false_eq_true, Classical.not_not, decide_eq_true_eq, z_sq, Option.bind_some, z_lits, z_n_add, z_n_mul, z_lt, z_le, z_eq, z_ne1, z_1ne, z_lt1, z_1lt, z_ltT, z_ltF, z_leT, z_leF, z_eqF, z_b_0, z_b_1, ↓reduceIte, eq_self, not_true_eq_false, not_false_eq_true, and_true, true_and, and_false, false_and, Nat.add_zero, Nat.zero_add])
    (by
      intro m X q
      refine ⟨X, ?_, q⟩
      simp (disch := omega) only [f_Mo_mover_L15, or_true, true_or, or_false, false_or, z_b_T, z_b_F, Bool.false_eq_true, Classical.not_not, decide_eq_true_eq, z_sq, Option.bind_some, z_lits, z_n_add, z_n_mul, z_lt, z_le, z_eq, z_ne1, z_1ne, z_lt1, z_1lt, z_ltT, z_ltF, z_leT, z_leF, z_eqF, z_b_0, z_b_1, ↓reduceIte, eq_self, not_true_eq_false, not_false_eq_true, and_true, true_and, and_false, false_and, Nat.add_zero, Nat.zero_add])
    (x := J') (z_mf.refl _ _)
  obtain ⟨X, e1, e2⟩ := key
  refine ⟨_, S', I', J', P', n', z_up I' 83 0 (z_n 0), X, h1, ?_, g.x0, ⟨by omega, by omega, by omega⟩, m0.trans e2⟩
  unfold f_Mo_mover
  rw [M_thr hS, Option.bind_some]
  show q_sq (f_Mo_mover_L15 83 q_FU (z_on (z_bm I J 0)) (z_z 0) (z_z 1) (z_n 0) _) _ = _
  rw [show (z_z 0 : Int64) = (match z_bm I J 0 with | none => z_z 0 | some j => z_z ((z_mva I J j).natAbs : Nat)) from rfl]
  exact (congrArg (fun e => q_sq e fun t2 σ3 => some (t2, σ3)) e1)
end
