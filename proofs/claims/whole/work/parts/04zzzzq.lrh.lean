/-! LAW: a line. -/
section
variable {T : k_T} {r c p : Nat}
theorem y_xw {j : Nat} (hj : j < 18) : ((if k_ix T k_w2 p < 18 then z_n (k_ix T k_w2 p) else -z_n 1) = z_n j) = (k_ix T k_w2 p = j) := by
  have := @k_i2_le T p
  by_cases q : k_ix T k_w2 p < 18
  · rw [if_pos q, z_eq (by omega) (by omega)]
  · rw [if_neg q]
    exact propext ⟨fun h => absurd h (by rw [z_1ne (by omega)]; exact id), fun h => absurd h (by omega)⟩
/-- what the reference's reading of a law leaves as it was -/
def y_lf (n : Nat) (I : z_MI) (J : z_MJ) (X : z_MI) (Z : z_MJ) : Prop := (∀ a, a ≠ 83 → (a < 104 ∨ 109 < a) → X a = I a) ∧ (∀ i, ¬ k_5 i → i ≠ 39 → X 83 i = I 83 i) ∧ (∀ a, a ≠ 83 → Z a = J a) ∧ (∀ i, i ≠ 22 → Z 83 i = J 83 i) ∧ (∀ i, i < 4000 → X 107 i = I 107 i) ∧ (∀ i, i ≠ 4 → X 104 i = I 104 i) ∧ ∀ i, i < 24 + n → X 105 i = I 105 i ∧ X 106 i = I 106 i
theorem y_mf.lf {I X : z_MI} {J Z : z_MJ} (h : y_mf I J X Z) (n : Nat) : y_lf n I J X Z := ⟨fun a h1 h2 => h.1 a h1 (by omega) (by omega) (by omega), h.2.1, h.2.2.1, h.2.2.2.1, h.2.2.2.2, fun i _ => by rw [h.1 104 (by omega) (by omega) (by omega) (by omega)], fun i _ => ⟨by rw [h.1 105 (by omega) (by omega) (by omega) (by omega)], by rw [h.1 106 (by omega) (by omega) (by omega) (by omega)]⟩⟩
theorem y_lf.trans {n m : Nat} {I X Y : z_MI} {J Z W : z_MJ} (h : y_lf n I J X Z) (g : y_lf m X Z Y W) (nm : n ≤ m) : y_lf n I J Y W :=
  ⟨fun a h1 h2 => (g.1 a h1 h2).trans (h.1 a h1 h2), fun i h1 h2 => (g.2.1 i h1 h2).trans (h.2.1 i h1 h2), fun a h1 => (g.2.2.1 a h1).trans (h.2.2.1 a h1), fun i hi => (g.2.2.2.1 i hi).trans (h.2.2.2.1 i hi), fun i hi => (g.2.2.2.2.1 i hi).trans (h.2.2.2.2.1 i hi), fun i hi => (g.2.2.2.2.2.1 i hi).trans (h.2.2.2.2.2.1 i hi), fun i hi => ⟨((g.2.2.2.2.2.2 i (by omega)).1).trans (h.2.2.2.2.2.2 i hi).1, ((g.2.2.2.2.2.2 i (by omega)).2).trans (h.2.2.2.2.2.2 i hi).2⟩⟩
abbrev y_OL : Type := Nat ⊕ (Nat × List Nat × List Nat × (l_V → Int32))
def y_GLn (T : k_T) (p : Nat) (O : y_OL) : Prop := match O with
  | .inl F => 0 < F ∧ F < 20000
  | .inr (p', cc, rc, w) => (p + cc.length + 1 ≤ p' ∧ p' < T.1 ∧ p + rc.length ≤ p' ∧ k_e T p' ≤ T.1 ∧ p' < k_e T p') ∧ k_ec 32 cc w ∧ y_e 4 6 rc w
def y_CLn (T : k_T) (r c p : Nat) (O : y_OL) : Prop := ∀ (S : z_SH) (I : z_MI) (J : z_MJ) (P : z_MP) (n : Nat × Nat) (z : Nat), z_St S → z_Pt P → y_cl S P r c T → y_st I J T → k_C T p I J → I r 3 = z_n z → z ≤ p → match O with
  | .inl F => ∃ X Z, f_Lr_parseLawLine r (z_h S I J P n) = some (z_n F, z_h S X Z P n) ∧ y_cf r c I J X Z
  | .inr (p', cc, _) => ∃ X Z, f_Lr_parseLawLine r (z_h S I J P n) = some (z_n 0, z_h S X Z P n) ∧ y_cf r c I J X Z ∧ k_C T p' X Z ∧ y_em r c z (cc ++ [20000]) I X
def y_RLn (T : k_T) (p : Nat) (O : y_OL) : Prop := ∀ (S : z_SH) (I : z_MI) (J : z_MJ) (P : z_MP) (n : Nat × Nat) (z j : Nat), z_St S → z_Pt P → k_hd (I 83 18) (I 99) T → k_M T p I J → I 83 39 = z_n (4000 + z) → z ≤ p → I 104 4 = z_n j → j < 6 → match O with
  | .inl F => ∃ X Z, (∀ m, f_Mo_readsLaw_L14 83 (m + 1) (z_h S I J P n) = some (.inl (z_n 0), z_h S X Z P n)) ∧ y_lf j I J X Z ∧ X 83 24 = z_n F
  | .inr (p', _, rc, _) => ∃ X Z, (∀ m, f_Mo_readsLaw_L14 83 (m + 1) (z_h S I J P n) = f_Mo_readsLaw_L14 83 m (z_h S X Z P n)) ∧ y_lf j I J X Z ∧ k_M T (k_e T p') X Z ∧ y_me z rc I X ∧ X 104 4 = z_n (j + 1) ∧ X 105 (24 + j) = z_n (4000 + z) ∧ X 106 (24 + j) = z_n (4000 + z + rc.length)
section
variable {S : z_SH} {I : z_MI} {J : z_MJ} {P : z_MP} {n : Nat × Nat} {j z : Nat}

theorem M_nx (hS : z_St S) (hP : z_Pt P) (hT : k_hd (I 83 18) (I 99) T) (hp : p ≤ T.1) (k : k_M T p I J) : ∃ X Z, f_Mo_nextToken 83 (z_h S I J P n) = some ((), z_h S X Z P n) ∧ y_mf I J X Z ∧ k_M T (k_e T p) X Z ∧ X 83 39 = I 83 39 ∧ ∀ a, a ≠ 83 → X a = I a := by
  obtain ⟨X, Z, a1, a2, a3, a4, a5, a6⟩ := M_next (I := I) (J := J) (n := n) hS hP hT (p := k_e T p) (k_e_le hp).2 k.1
  exact ⟨X, Z, a1, ⟨fun a q1 q2 q3 q4 => a2 a q1, fun i q1 q2 => by unfold k_5 at q1; exact a3 i (by omega) (by omega) (by omega) (by omega), a4, a5, fun i hi => by rw [a2 107 (by omega)]⟩, a6, a3 39 (by omega) (by omega) (by omega) (by omega), a2⟩

set_option maxRecDepth 100000 in
set_option maxHeartbeats 4000000 in
theorem M_lawHead (hS : z_St S) (hP : z_Pt P) (hT : k_hd (I 83 18) (I 99) T) (hp : p ≤ T.1) (k : k_M T p I J) (h : k_ix T k_w2 p = 16) (h1 : k_ix T k_w2 (k_e T p) = 17) (h39 : I 83 39 = z_n (4000 + z)) (hj : I 104 4 = z_n j) (j6 : j < 6) : ∃ X Z, y_mf I J (fun a => if a = 105 then I 105 else X a) Z ∧ k_M T (k_e T (k_e T p)) X Z ∧ X 83 39 = z_n (4000 + z) ∧ (∀ a, a ≠ 83 → a ≠ 105 → X a = I a) ∧ (∀ i, X 105 i = if i = 24 + j then z_n (4000 + z) else I 105 i) ∧ ∀ m, f_Mo_readsLaw_L14 83 (m + 1) (z_h S I J P n) = q_sq (f_Mo_reads 83 (z_h S X Z P n)) fun x36 σ35 => if x36 = (0 : Int32) then (some ((.inl (0 : Int32)), σ35)) else ((q_gr (q_gf σ35 12 83 37)).bind fun x38 => (q_gr (q_gf σ35 12 83 35)).bind fun x39 => (q_gi (q_ga σ35 20 x39 (4 : Int32))).bind fun x40 => (q_gi (q_gf σ35 12 83 39)).bind fun x41 => (q_sa σ35 20 x38 ((24 : Int32) + x40) (.int x41)).bind fun σ42 => (q_gr (q_gf σ42 12 83 35)).bind fun x43 => (q_gi (q_ga σ42 20 x43 (4 : Int32))).bind fun x44 => (q_sa σ42 20 x43 (4 : Int32) (.int (x44 + (1 : Int32)))).bind fun σ45 => f_Mo_readsLaw_L14 83 m σ45) := by
  have om := fun I J => z_ob (I := I) (J := J) (P := P) (n := n) (s_83 hS)
  have kk := k_i2_is (show k_ix T k_w2 p < 18 by omega)
  have r21 : q_gi (q_gf (z_h S I J P n) 12 83 21) = some (z_n 1) := by rw [z_gi (s_83 hS) rfl, k.2.2.1, kk.1]
  have w1 : f_Mo_isWord 83 (8903 : Int64) (z_h S I J P n) = some (z_n 1, z_h S I J P n) := (M_wd2 hS k (i := 16) (by omega)).trans (by rw [z_b_t h])
  obtain ⟨X, Z, a1, a2, a3, a4, a5⟩ := M_nx (n := n) hS hP hT hp k
  have w2 : f_Mo_isWord 83 (458690 : Int64) (z_h S X Z P n) = some (z_n 1, z_h S X Z P n) := (M_wd2 hS a3 (i := 17) (by omega)).trans (by rw [z_b_t h1])
  obtain ⟨Y, W, b1, b2, b3, b4, b5⟩ := M_nx (n := n) hS hP (a2.hd hT) (k_e_le hp).2 a3
  have g35 : ∀ X Z, q_gr (q_gf (z_h S X Z P n) 12 83 35) = some 104 := fun _ _ => z_gr (s_83 hS) rfl (p_83_35 hP)
  have g36 : ∀ X Z, q_gr (q_gf (z_h S X Z P n) 12 83 36) = some 105 := fun _ _ => z_gr (s_83 hS) rfl (p_83_36 hP)
  have r104 : q_gi (q_ga (z_h S I J P n) 20 104 (z_n 4)) = some (z_n j) := by rw [z_gia (s_104 hS) (by omega) (z_rpl (by omega)), hj]
  have r104' : q_gi (q_ga (z_h S Y W P n) 20 104 (z_n 4)) = some (z_n j) := by rw [z_gia (s_104 hS) (by omega) (z_rpl (by omega)), b5 104 (by omega), a5 104 (by omega), hj]
  have r39 : q_gi (q_gf (z_h S Y W P n) 12 83 39) = some (z_n (4000 + z)) := by rw [z_gi (s_83 hS) rfl, b4, a4, h39]
  have w105 : ∀ v, q_sa (z_h S Y W P n) 20 105 (z_n (24 + j)) (.int v) = some (z_h S (z_up Y 105 (24 + j) v) W P n) := fun _ => z_sai (s_105 hS) (by decide) (by omega) (z_rpl (by omega))
  refine ⟨z_up Y 105 (24 + j) (z_n (4000 + z)), W, ?_, ?_, ?_, fun a h1 h2 => by rw [z_ups h2, b5 a h1, a5 a h1], fun i => by rw [z_up_e, b5 105 (by omega), a5 105 (by omega)], fun m => ?_⟩
  · have t := a2.trans b2
    refine ⟨fun a q1 q2 q3 q4 => ?_, fun i q1 q2 => ?_, t.2.2.1, t.2.2.2.1, fun i hi => ?_⟩
    · by_cases e : a = 105
      · subst e; exact if_pos rfl
      · exact (if_neg e).trans (by rw [z_ups e]; exact t.1 a q1 q2 q3 q4)
    · exact (congrFun (if_neg (show ¬ 83 = 105 by decide)) i).trans (by rw [z_ups (by omega)]; exact t.2.1 i q1 q2)
    · exact (congrFun (if_neg (show ¬ 107 = 105 by decide)) i).trans (by rw [z_ups (by omega)]; exact t.2.2.2.2 i hi)
  · unfold k_M; rw [z_ups (by omega)]; exact b3
  · rw [z_ups (by omega), b4, a4, h39]
  · rw [f_Mo_readsLaw_L14, r21, Option.bind_some, if_neg (show ¬ z_n 1 = (0 : Int32) by decide), om, Option.bind_some, w1, z_sq, if_neg (show ¬ z_n 1 = (0 : Int32) by decide), g35, Option.bind_some, show (4 : Int32) = z_n 4 from rfl, r104, Option.bind_some, if_neg (show ¬ z_n j = (6 : Int32) by rw [show (6 : Int32) = z_n 6 from rfl, z_eq (by omega) (by omega)]; omega), om, Option.bind_some, a1, z_sq, om, Option.bind_some, w2, z_sq, if_neg (show ¬ z_n 1 = (0 : Int32) by decide), om, Option.bind_some, b1, z_sq, g36, Option.bind_some, g35, Option.bind_some, r104', Option.bind_some, r39, Option.bind_some, show (24 : Int32) = z_n 24 from rfl, z_n_add, w105, Option.bind_some, om, Option.bind_some]
end
end
