/-! READ: the reference takes a name. -/
/-- the answer and the rows when a tag is read -/
def k_ma (T : k_T) (D : z_D) (r : Int32) (X : z_MI) (Z : z_MJ) (O : k_O) : Prop := match O with
  | .inl F => r = z_n 0 ∧ X 83 24 = z_n F
  | .inr (p', D') => r = z_n 1 ∧ D'.1 = D.1 ∧ k_M T p' X Z ∧ k_mz X Z D' ∧ k_ml X Z D'
section
variable {S : z_SH} {I : z_MI} {J : z_MJ} {P : z_MP} {K : Nat → Bool} {n : Nat × Nat} {T : k_T} {p : Nat} {D : z_D}
theorem k_mf.hd {X : z_MI} {Z : z_MJ} (h : k_mf I J X Z) (hT : k_hd (I 83 18) (I 99) T) : k_hd (X 83 18) (X 99) T := by
  rw [h.2.1 18 (by unfold k_5; omega), h.1 99 (by decide) (by omega)]; exact hT
theorem k_mf_24 (v : Int32) : k_mf I J (z_up I 83 24 v) J := k_mf_83 (fun a ha => z_ups ha) (fun i hi => z_up_i (fun e => hi (by unfold k_5; omega))) (fun _ _ => rfl) (fun _ _ => rfl)
/-- a row of the last line is written -/
theorem k_mzi {k : Nat} {v : Int32} (h : k_mz I J D) (ml : k_ml I J D) (hk : k < 5) : k_mz (z_up I (91 + k) (288 + D.1) v) J (d_si D k D.1 v) ∧ k_ml (z_up I (91 + k) (288 + D.1) v) J (d_si D k D.1 v) := by
  refine ⟨⟨by rw [z_ups (by omega)]; exact h.1, fun l hl => ⟨fun k' hk' => ?_, (h.2 l hl).2⟩⟩, fun k' hk' => ?_, ml.2⟩
  · rw [z_up_i (show 288 + l ≠ 288 + D.1 by change l < D.1 at hl; omega), (h.2 l hl).1 k' hk']
    show _ = if k' = k ∧ l = D.1 then v else _
    rw [if_neg (by change l < D.1 at hl; omega)]
  · show z_up I (91 + k) (288 + D.1) v (91 + k') (288 + D.1) = if k' = k ∧ D.1 = D.1 then v else _
    by_cases e : k' = k
    · rw [if_pos ⟨e, rfl⟩, e, z_up_s]
    · rw [if_neg (fun q => e q.1), z_up_a (by omega)]; exact ml.1 k' hk'
theorem k_mzj {k : Nat} {v : Int64} (h : k_mz I J D) (ml : k_ml I J D) (hk : k < 3) : k_mz I (z_uj J (96 + k) (288 + D.1) v) (d_sj D k D.1 v) ∧ k_ml I (z_uj J (96 + k) (288 + D.1) v) (d_sj D k D.1 v) := by
  refine ⟨⟨h.1, fun l hl => ⟨(h.2 l hl).1, fun k' hk' => ?_⟩⟩, ml.1, fun k' hk' => ?_⟩
  · rw [z_uj_i (show 288 + l ≠ 288 + D.1 by change l < D.1 at hl; omega), (h.2 l hl).2 k' hk']
    show _ = if k' = k ∧ l = D.1 then v else _
    rw [if_neg (by change l < D.1 at hl; omega)]
  · show z_uj J (96 + k) (288 + D.1) v (96 + k') (288 + D.1) = if k' = k ∧ D.1 = D.1 then v else _
    by_cases e : k' = k
    · rw [if_pos ⟨e, rfl⟩, e, z_uj_s]
    · rw [if_neg (fun q => e q.1), z_uj_a (by omega)]; exact ml.2 k' hk'
theorem k_mf_i {k : Nat} {v : Int32} {i : Nat} (hk : k < 5) (hi : 288 ≤ i) (hi2 : i < 300) : k_mf I J (z_up I (91 + k) i v) J :=
  ⟨fun a h1 h2 => z_ups (by omega), fun _ _ => by rw [z_ups (by omega)], fun _ _ => by rw [z_ups (by omega)], fun k' i' _ h => z_up_i (by omega), fun _ _ _ => rfl, fun _ _ => rfl, fun _ _ _ _ => rfl⟩
theorem k_mf_j {k : Nat} {v : Int64} {i : Nat} (hk : k < 3) (hi : 288 ≤ i) (hi2 : i < 300) : k_mf I J I (z_uj J (96 + k) i v) :=
  ⟨fun _ _ _ => rfl, fun _ _ => rfl, fun _ _ => rfl, fun _ _ _ _ => rfl, fun a h1 h2 => z_uj_r (by omega), fun _ _ => by rw [z_uj_r (by omega)], fun k' i' _ h => z_uj_i (by omega)⟩

set_option maxRecDepth 100000 in
set_option maxHeartbeats 4000000 in
theorem M_nextW (hS : z_St S) (hP : z_Pt P) {D' : z_D} (hT : k_hd (I 83 18) (I 99) T) (hp : p ≤ T.1) {I1 : z_MI} {J1 : z_MJ} (f : k_mf I J I1 J1) (e19 : I1 83 19 = z_n (k_e T p)) (mz : k_mz I1 J1 D' ∧ k_ml I1 J1 D') (hD : D'.1 = D.1) : ∃ X Z, f_Mo_nextToken 83 (z_h S I1 J1 P n) = some ((), z_h S X Z P n) ∧ k_mf I J X Z ∧ k_ma T D (z_n 1) X Z (.inr (k_e T p, D')) := by
  obtain ⟨X, Z, a1, a2, a3, a4, a5, a6⟩ := M_next (J := J1) (n := n) hS hP (f.hd hT) (k_e_le hp).2 e19
  exact ⟨X, Z, a1, f.trans (k_mf_83 a2 (fun i hi => a3 i (fun e => hi (by unfold k_5; omega)) (fun e => hi (by unfold k_5; omega)) (fun e => hi (by unfold k_5; omega)) (fun e => hi (by unfold k_5; omega))) a4 a5), rfl, hD, a6, mz.1.f a2 a4, mz.2.f a2 a4⟩
end
section
variable {S : z_SH} {I : z_MI} {J : z_MJ} {P : z_MP} {K : Nat → Bool} {n : Nat × Nat} {T : k_T} {p : Nat} {D : z_D}
set_option maxRecDepth 100000 in
set_option maxHeartbeats 4000000 in
theorem M_readsName (hS : z_St S) (hP : z_Pt P) (hT : k_hd (I 83 18) (I 99) T) (hp : p ≤ T.1) (k : k_M T p I J) (h : k_mz I J D) (ml : k_ml I J D) (ok : d_ok D) (l12 : D.1 < 12) {t : Nat} (ht : t < 4) :
    ∃ r X Z, f_Mo_readsName 83 (z_n (288 + D.1)) (z_n (t + 1)) (z_h S I J P n) = some (r, z_h S X Z P n) ∧ k_mf I J X Z ∧ k_ma T D r X Z (if k_nm T p = true then k_take T p t D else .inl (k_fl T 1 p)) := by
  have om := fun I J => z_ob (I := I) (J := J) (P := P) (n := n) (s_83 hS)
  have nm := M_isName (P := P) (n := n) hS k
  have er := M_errs (n := n) hS hP k
  have fin : ∀ c, ∃ r X Z, some (z_n 0, z_h S (z_up I 83 24 (z_n (k_fl T c p))) J P n) = some (r, z_h S X Z P n) ∧ k_mf I J X Z ∧ k_ma T D r X Z (.inl (k_fl T c p)) := fun c => ⟨_, _, _, rfl, k_mf_24 _, rfl, z_up_s _ _ _ _⟩
  have e19 := k.1
  by_cases q : k_nm T p = true
  · rw [if_pos q]
    rw [z_b_t q] at nm
    have kk := k_nm_k q
    have r22 : J 83 22 = k_vl T p := k.2.2.2.1 kk
    have ln := M_lineOf (n := n) hS hP h (by omega) (k_vl T p)
    have wed := M_isWed (n := n) hS hP h (by omega)
    unfold k_take
    generalize k_vl T p = x at *
    have cs : t = 0 ∨ t = 1 ∨ t = 2 ∨ t = 3 := by omega
    rcases cs with rfl | rfl | rfl | rfl
    · obtain ⟨X, Z, a1, a2, a3⟩ := M_nextW (n := n) (D := D) hS hP hT hp (k_mf_j (v := x) (k := 1) (by omega) (by omega) (show 288 + D.1 < 300 by omega)) e19 (k_mzj h ml (by omega)) rfl
      refine ⟨z_n 1, X, Z, ?_, a2, a3⟩
      simp (disch := omega) only [f_Mo_readsName, om, nm, z_Mr hS hP, z_Mw hS, r22, a1, or_true, true_or, or_false, false_or, z_b_T, z_b_F, Bool.false_eq_true, Classical.not_not, decide_eq_true_eq, z_sq, Option.bind_some, z_lits, z_n_add, z_n_mul, z_lt, z_le, z_eq, z_ne1, z_1ne, z_lt1, z_1lt, z_ltT, z_ltF, z_leT, z_leF, z_eqF, z_b_0, z_b_1, ↓reduceIte, eq_self, not_true_eq_false, not_false_eq_true, and_true, true_and, and_false, false_and, Nat.add_zero, Nat.zero_add]
    · obtain ⟨X, Z, a1, a2, a3⟩ := M_nextW (n := n) (D := D) hS hP hT hp (k_mf_j (v := x) (k := 2) (by omega) (by omega) (show 288 + D.1 < 300 by omega)) e19 (k_mzj h ml (by omega)) rfl
      refine ⟨z_n 1, X, Z, ?_, a2, a3⟩
      simp (disch := omega) only [f_Mo_readsName, om, nm, z_Mr hS hP, z_Mw hS, r22, a1, or_true, true_or, or_false, false_or, z_b_T, z_b_F, Bool.false_eq_true, Classical.not_not, decide_eq_true_eq, z_sq, Option.bind_some, z_lits, z_n_add, z_n_mul, z_lt, z_le, z_eq, z_ne1, z_1ne, z_lt1, z_1lt, z_ltT, z_ltF, z_leT, z_leF, z_eqF, z_b_0, z_b_1, ↓reduceIte, eq_self, not_true_eq_false, not_false_eq_true, and_true, true_and, and_false, false_and, Nat.add_zero, Nat.zero_add]
    · rw [if_neg (by decide), if_neg (by decide)]
      by_cases q1 : d_nm x D < D.1
      · rw [if_pos q1] at ln
        have sx : I 91 (288 + d_nm x D) = D.2.1 0 (d_nm x D) := (h.2 _ q1).1 0 (by omega)
        have ok0 := (ok.2.1 _ q1).1
        generalize d_nm x D = m at *
        have wed := wed m
        by_cases q2 : D.2.1 0 m = z_n 0
        · rw [if_neg (show ¬ (¬ m < D.1 ∨ 2 = 2 ∧ ¬ D.2.1 0 m = z_n 0) from fun e => e.elim (fun e => e q1) (fun e => e.2 q2)), if_neg (by decide)]
          by_cases q3 : d_wed D m = true
          · rw [if_pos q3]
            rw [z_b_t q3] at wed
            obtain ⟨r, X, Z, b1, b2, b3⟩ := fin 3
            refine ⟨r, X, Z, ?_, b2, b3⟩
            rw [← b1]
            simp (disch := omega) only [f_Mo_readsName, om, nm, z_Mr hS hP, r22, ln, sx, q2, wed, er, or_true, true_or, or_false, false_or, z_b_T, z_b_F, Bool.false_eq_true, Classical.not_not, decide_eq_true_eq, z_sq, Option.bind_some, z_lits, z_n_add, z_n_mul, z_lt, z_le, z_eq, z_ne1, z_1ne, z_lt1, z_1lt, z_ltT, z_ltF, z_leT, z_leF, z_eqF, z_b_0, z_b_1, ↓reduceIte, eq_self, not_true_eq_false, not_false_eq_true, and_true, true_and, and_false, false_and, Nat.add_zero, Nat.zero_add]
          · rw [if_neg q3]
            rw [z_b_f q3] at wed
            obtain ⟨X, Z, a1, a2, a3⟩ := M_nextW (n := n) (D := D) hS hP hT hp (k_mf_i (v := z_n m) (k := 2) (by omega) (by omega) (show 288 + D.1 < 300 by omega)) (by rw [z_ups (by decide)]; exact e19) (k_mzi h ml (by omega)) rfl
            refine ⟨z_n 1, X, Z, ?_, a2, a3⟩
            simp (disch := omega) only [f_Mo_readsName, om, nm, z_Mr hS hP, z_Mw hS, r22, ln, sx, q2, wed, a1, or_true, true_or, or_false, false_or, z_b_T, z_b_F, Bool.false_eq_true, Classical.not_not, decide_eq_true_eq, z_sq, Option.bind_some, z_lits, z_n_add, z_n_mul, z_lt, z_le, z_eq, z_ne1, z_1ne, z_lt1, z_1lt, z_ltT, z_ltF, z_leT, z_leF, z_eqF, z_b_0, z_b_1, ↓reduceIte, eq_self, not_true_eq_false, not_false_eq_true, and_true, true_and, and_false, false_and, Nat.add_zero, Nat.zero_add]
        · rw [if_pos (show (¬ m < D.1 ∨ 2 = 2 ∧ ¬ D.2.1 0 m = z_n 0) from Or.inr ⟨rfl, q2⟩)]
          have q2' : D.2.1 0 m = z_n 1 := ok0.resolve_left q2
          obtain ⟨r, X, Z, b1, b2, b3⟩ := fin 2
          refine ⟨r, X, Z, ?_, b2, b3⟩
          rw [← b1]
          simp (disch := omega) only [f_Mo_readsName, om, nm, z_Mr hS hP, r22, ln, sx, q2', er, or_true, true_or, or_false, false_or, z_b_T, z_b_F, Bool.false_eq_true, Classical.not_not, decide_eq_true_eq, z_sq, Option.bind_some, z_lits, z_n_add, z_n_mul, z_lt, z_le, z_eq, z_ne1, z_1ne, z_lt1, z_1lt, z_ltT, z_ltF, z_leT, z_leF, z_eqF, z_b_0, z_b_1, ↓reduceIte, eq_self, not_true_eq_false, not_false_eq_true, and_true, true_and, and_false, false_and, Nat.add_zero, Nat.zero_add]
      · rw [if_neg q1] at ln
        rw [if_pos (Or.inl q1)]
        obtain ⟨r, X, Z, b1, b2, b3⟩ := fin 2
        refine ⟨r, X, Z, ?_, b2, b3⟩
        rw [← b1]
        have lt : (-z_n 1 < z_n 0) = True := eq_true (by decide)
        simp (disch := omega) only [f_Mo_readsName, om, nm, z_Mr hS hP, r22, ln, lt, er, or_true, true_or, or_false, false_or, z_b_T, z_b_F, Bool.false_eq_true, Classical.not_not, decide_eq_true_eq, z_sq, Option.bind_some, z_lits, z_n_add, z_n_mul, z_lt, z_le, z_eq, z_ne1, z_1ne, z_lt1, z_1lt, z_ltT, z_ltF, z_leT, z_leF, z_eqF, z_b_0, z_b_1, ↓reduceIte, eq_self, not_true_eq_false, not_false_eq_true, and_true, true_and, and_false, false_and, Nat.add_zero, Nat.zero_add]
    · rw [if_neg (by decide), if_neg (by decide)]
      by_cases q1 : d_nm x D < D.1
      · rw [if_pos q1] at ln
        generalize d_nm x D = m at *
        rw [if_neg (show ¬ (¬ m < D.1 ∨ 3 = 2 ∧ ¬ D.2.1 0 m = z_n 0) from fun e => e.elim (fun e => e q1) (fun e => absurd e.1 (by decide))), if_pos rfl]
        obtain ⟨X, Z, a1, a2, a3⟩ := M_nextW (n := n) (D := D) hS hP hT hp (k_mf_i (v := z_n m) (k := 3) (by omega) (by omega) (show 288 + D.1 < 300 by omega)) (by rw [z_ups (by decide)]; exact e19) (k_mzi h ml (by omega)) rfl
        refine ⟨z_n 1, X, Z, ?_, a2, a3⟩
        simp (disch := omega) only [f_Mo_readsName, om, nm, z_Mr hS hP, z_Mw hS, r22, ln, a1, or_true, true_or, or_false, false_or, z_b_T, z_b_F, Bool.false_eq_true, Classical.not_not, decide_eq_true_eq, z_sq, Option.bind_some, z_lits, z_n_add, z_n_mul, z_lt, z_le, z_eq, z_ne1, z_1ne, z_lt1, z_1lt, z_ltT, z_ltF, z_leT, z_leF, z_eqF, z_b_0, z_b_1, ↓reduceIte, eq_self, not_true_eq_false, not_false_eq_true, and_true, true_and, and_false, false_and, Nat.add_zero, Nat.zero_add]
      · rw [if_neg q1] at ln
        rw [if_pos (Or.inl q1)]
        obtain ⟨r, X, Z, b1, b2, b3⟩ := fin 2
        refine ⟨r, X, Z, ?_, b2, b3⟩
        rw [← b1]
        have lt : (-z_n 1 < z_n 0) = True := eq_true (by decide)
        simp (disch := omega) only [f_Mo_readsName, om, nm, z_Mr hS hP, r22, ln, lt, er, or_true, true_or, or_false, false_or, z_b_T, z_b_F, Bool.false_eq_true, Classical.not_not, decide_eq_true_eq, z_sq, Option.bind_some, z_lits, z_n_add, z_n_mul, z_lt, z_le, z_eq, z_ne1, z_1ne, z_lt1, z_1lt, z_ltT, z_ltF, z_leT, z_leF, z_eqF, z_b_0, z_b_1, ↓reduceIte, eq_self, not_true_eq_false, not_false_eq_true, and_true, true_and, and_false, false_and, Nat.add_zero, Nat.zero_add]
  · rw [if_neg q]
    rw [z_b_f q] at nm
    obtain ⟨r, X, Z, b1, b2, b3⟩ := fin 1
    refine ⟨r, X, Z, ?_, b2, b3⟩
    rw [← b1]
    unfold f_Mo_readsName
    rw [om, Option.bind_some, nm, z_sq, if_pos (show z_n 0 = (0 : Int32) from rfl), om, Option.bind_some, show (1 : Int32) = z_n 1 from rfl, er, z_sq, if_neg (show ¬ ¬ (z_n 0 = 0 ∨ z_n 0 = z_n 1) from fun e => e (Or.inl rfl))]
end
