/-! What holds between calls: all. -/
abbrev l_V : Type := Nat → Int32
/-- a law of the class: object q, code row c of m slots, stack t, z steps g; w what it says of facts -/
def l_C (q c t m z : Nat) (g : Nat → Int32) (w : l_V → Bool) : Prop :=
  ∀ (S : z_SH) (I : z_MI) (J : z_MJ) (P : z_MP) (n : Nat × Nat) (v : l_V), z_St S → S q = some (6, [2, 0, 0, 2]) → P q 0 = some c → P q 3 = some t → I q 1 = z_n z → S c = some (20, List.replicate m 0) → (∀ i, i < m → I c i = g i) → S t = some (20, List.replicate 32 0) → (8 ≤ t ∧ t ≠ q ∧ t ≠ c ∧ t ≠ 35) → (∀ j, j < 13 → I 35 j = v j) →
    ∃ I', f_La_allows q 35 (z_h S I J P n) = some (z_b (w v = true), z_h S I' J P n) ∧ ∀ a, a ≠ t → I' a = I a
/-- a law of the reference -/
def l_M (k N : Nat) (fr to co : Nat → Int32) (w : l_V → Bool) : Prop :=
  ∀ (S : z_SH) (I : z_MI) (J : z_MJ) (P : z_MP) (n : Nat × Nat) (v : l_V), z_St S → z_Pt P → I 104 k = z_n N → (∀ j, j < 6 → I 105 (6 * k + j) = fr j ∧ I 106 (6 * k + j) = to j) → (∀ i, i < 1000 → I 107 (1000 * k + i) = co i) → (∀ j, j < 13 → I 119 (j + 1) = v j) →
    ∃ I', f_Mo_isLet_L204 83 (z_n k) q_FU (z_n (6 * k)) (z_h S I J P n) = some ((if w v = true then Sum.inl (z_n 1) else Sum.inr ()), z_h S I' J P n) ∧ ∀ a, ¬ (110 ≤ a ∧ a ≤ 118) → I' a = I a
def i_l1 (S : z_SH) (I : z_MI) (P : z_MP) (K : Nat → Bool) (n k : Nat) : Prop :=
  ∃ (q c t m z N : Nat) (w : l_V → Bool), P 34 k = some q ∧ ((70 < q ∧ q < n ∧ (q < 83 ∨ 131 ≤ q) ∧ K q = false) ∧ (70 < c ∧ c < n ∧ (c < 83 ∨ 131 ≤ c) ∧ K c = false) ∧ (8 ≤ t ∧ t < n ∧ K t = true)) ∧
    (S q = some (6, [2, 0, 0, 2]) ∧ P q 0 = some c ∧ P q 3 = some t ∧ I q 1 = z_n z ∧ I q 2 = z_n N ∧ I 104 k = z_n N ∧ N ≤ 6) ∧ (S c = some (20, List.replicate m 0) ∧ S t = some (20, List.replicate 32 0)) ∧
    l_C q c t m z (I c) w ∧ l_M k N (fun j => I 105 (6 * k + j)) (fun j => I 106 (6 * k + j)) (fun i => I 107 (1000 * k + i)) w
def i_tp (I : z_MI) : Prop := ∃ N, N ≤ 1000 ∧ I 9 1 = z_n N ∧ I 83 16 = z_n N ∧ ∀ i, i < N → ∃ c, I 10 i = z_n c ∧ I 99 i = z_n c ∧ (c = 10 ∨ (32 ≤ c ∧ c ≤ 126))
def i_ms (S : z_SH) (I : z_MI) (J : z_MJ) (P : z_MP) (K : Nat → Bool) (n m s : Nat) : Prop :=
  ∃ a r v c y : Nat, (a ≤ 1 ∧ r ≤ 1 ∧ (r = 1 → a = 1) ∧ v < 6 ∧ c ≤ 7 ∧ y ≤ 20) ∧
    (I (44 + 7 * m) s = z_n a ∧ I (45 + 7 * m) s = z_n v ∧ I (46 + 7 * m) s = z_n c ∧ I (47 + 7 * m) s = z_n y) ∧
    (I 127 (144 * m + 6 * s) = z_n a ∧ I 127 (144 * m + 6 * s + 1) = z_n r ∧ I 127 (144 * m + 6 * s + 2) = z_n v ∧ I 127 (144 * m + 6 * s + 3) = z_n c ∧ I 127 (144 * m + 6 * s + 4) = z_n y ∧ I 127 (144 * m + 6 * s + 5) = z_n (z_Dm I J m s).1) ∧
    d_ok (z_Dm I J m s) ∧ ((r = 0 ∧ P (48 + 7 * m) s = none) ∨ (r = 1 ∧ ∃ p, P (48 + 7 * m) s = some p ∧ z_pg S I J P K n p (z_Dm I J m s)))
def i_m1 (S : z_SH) (I : z_MI) (J : z_MJ) (P : z_MP) (K : Nat → Bool) (n m : Nat) : Prop :=
  (∀ s, s < 24 → i_ms S I J P K n m s) ∧ ∀ v, v < 6 → I (49 + 7 * m) v = I 126 (6 * m + v) ∧ (I 126 (6 * m + v) = z_n 0 ∨ I 126 (6 * m + v) = z_n 1)
def i_mk (S : z_SH) (I : z_MI) (J : z_MJ) (P : z_MP) (K : Nat → Bool) (n : Nat) : Prop :=
  ∀ m, m < 4 → (I 21 m = z_n 0 ∧ I 125 m = z_n 0) ∨ (I 21 m = z_n 1 ∧ I 125 m = z_n 1 ∧ i_m1 S I J P K n m)
def k_w1 : List Int64 := [87024528, 194907051, 459437, 277800912, 38567165, 10656671, 10334903, 180242487, 9518, 12527906]
def k_w2 : List Int64 := [5146, 6094, 161614, 133743, 158523, 43823245, 1421140441, 453117379, 385309, 7500624643, 8659005332, 380651, 1905275, 1111, 423, 10631, 8903, 458690]
def k_tb : List Nat := [16, 32, 64, 128, 1, 2, 4, 8]
def k_sg : List Nat := [40, 41, 60, 61, 43, 45, 42, 59]
def i_ct (I : z_MI) (J : z_MJ) : Prop := (∀ i, i < 10 → J 11 i = k_w1.getD i 0) ∧ (∀ i, i < 18 → J 12 i = k_w2.getD i 0) ∧ (∀ i, i < 8 → I 1 i = z_n (k_tb.getD i 0)) ∧ (∀ i, i < 8 → I 7 i = z_n (k_sg.getD i 0)) ∧ I 4 1 = z_n 0
def i_lw (S : z_SH) (I : z_MI) (P : z_MP) (K : Nat → Bool) (n : Nat) : Prop := ∀ k, k < 4 → i_l1 S I P K n k
def Inv (S : z_SH) (I : z_MI) (J : z_MJ) (P : z_MP) (K : Nat → Bool) (n : Nat) : Prop := z_B S I J P K n ∧ h_ok I J ∧ i_tp I ∧ i_mk S I J P K n ∧ i_lw S I P K n ∧ i_ct I J
section
variable {S S' : z_SH} {I I' : z_MI} {J J' : z_MJ} {P P' : z_MP} {K X : Nat → Bool} {n n' : Nat}
theorem z_Dm_of {m s : Nat} (e1 : I' 127 = I 127) (e2 : I' 128 = I 128) (e3 : J' 129 = J 129) : z_Dm I' J' m s = z_Dm I J m s := by
  unfold z_Dm
  rw [e1, e2, e3]
theorem i_mk.mono (h : i_mk S I J P K n) (e : ∀ a, (20 < a ∧ a < 22) ∨ (43 ≤ a ∧ a < 71) ∨ (125 ≤ a ∧ a < 130) → I' a = I a ∧ J' a = J a ∧ P' a = P a) (g : ∀ p D, z_pg S I J P K n p D → z_pg S' I' J' P' K n' p D) : i_mk S' I' J' P' K n' := by
  intro m hm
  rw [(e 21 (by omega)).1, (e 125 (by omega)).1]
  rcases h m hm with h | ⟨h1, h2, h3, h4⟩
  · exact Or.inl h
  · refine Or.inr ⟨h1, h2, fun s hs => ?_, fun v hv => ?_⟩
    · obtain ⟨a, r, v, c, y, k1, k2, k3, k4, k5⟩ := h3 s hs
      have d := z_Dm_of (I := I) (I' := I') (J := J) (J' := J') (m := m) (s := s) (e 127 (by omega)).1 (e 128 (by omega)).1 (e 129 (by omega)).2.1
      refine ⟨a, r, v, c, y, k1, ?_, ?_, ?_, ?_⟩
      · rw [(e (44 + 7 * m) (by omega)).1, (e (45 + 7 * m) (by omega)).1, (e (46 + 7 * m) (by omega)).1, (e (47 + 7 * m) (by omega)).1]; exact k2
      · rw [(e 127 (by omega)).1, d]; exact k3
      · rw [d]; exact k4
      · rw [(e (48 + 7 * m) (by omega)).2.2, d]
        rcases k5 with k5 | ⟨k5, p, k6, k7⟩
        · exact Or.inl k5
        · exact Or.inr ⟨k5, p, k6, g p _ k7⟩
    · rw [(e (49 + 7 * m) (by omega)).1, (e 126 (by omega)).1]; exact h4 v hv
theorem i_lw.mono (h : i_lw S I P K n) (hn : n ≤ n') (e34 : P' 34 = P 34) (eM : I' 104 = I 104 ∧ I' 105 = I 105 ∧ I' 106 = I 106 ∧ I' 107 = I 107) (e : ∀ a, 70 < a → a < n → (a < 83 ∨ 131 ≤ a) → (S' a = S a ∧ P' a = P a) ∧ (K a = false → I' a = I a)) (hK : ∀ a, K a = true → (70 < a ∧ a < 83) ∨ 131 ≤ a) : i_lw S' I' P' K n' := by
  intro k hk
  obtain ⟨q, c, t, m, z, N, w, h1, ⟨⟨q1, q2, q3, q4⟩, ⟨c1, c2, c3, c4⟩, t1, t2, t3⟩, ⟨h2, h3, h4, h5, h6, h7, h8⟩, ⟨h9, h10⟩, h11, h12⟩ := h k hk
  have eq := e q q1 q2 q3
  have ec := e c c1 c2 c3
  have ht := hK t t3
  have et := e t (by omega) t2 (by omega)
  refine ⟨q, c, t, m, z, N, w, by rw [e34]; exact h1, ⟨⟨q1, by omega, q3, q4⟩, ⟨c1, by omega, c3, c4⟩, t1, by omega, t3⟩, ⟨eq.1.1.trans h2, by rw [eq.1.2]; exact h3, by rw [eq.1.2]; exact h4, by rw [eq.2 q4]; exact h5, by rw [eq.2 q4]; exact h6, by rw [eM.1]; exact h7, h8⟩, ⟨ec.1.1.trans h9, et.1.1.trans h10⟩, by rw [ec.2 c4]; exact h11, ?_⟩
  rw [eM.2.1, eM.2.2.1, eM.2.2.2]; exact h12
theorem Inv.ag (h : Inv S I J P K n) (g : z_ag n (z_x0 K) S I J P S' I' J' P') (hn : n ≤ n') : Inv S' I' J' P' K n' := by
  obtain ⟨B, ho, ht, hm, hl, hc⟩ := h
  have n131 : 131 ≤ n := B.2.2.1.1
  have hK := B.2.2.1.2
  have x0 : ∀ a, K a = false → (a < 35 ∨ 42 < a) → z_x0 K a = false := by
    intro a h1 h2
    unfold z_x0
    simp only [h1, Bool.false_or, Bool.and_eq_false_iff, decide_eq_false_iff_not]
    omega
  have kf : ∀ a, ¬ ((70 < a ∧ a < 83) ∨ 131 ≤ a) → K a = false := by
    intro a h1
    cases h2 : K a with
    | false => rfl
    | true => exact absurd (hK a h2) h1
  have e : ∀ a, a < 131 → (a < 35 ∨ (42 < a ∧ a ≤ 70) ∨ 83 ≤ a) → I' a = I a ∧ J' a = J a ∧ P' a = P a ∧ S' a = S a := by
    intro a h1 h2
    have h3 := g a (by omega)
    have h4 := h3.2 (x0 a (kf a (by omega)) (by omega))
    exact ⟨h4.1, h4.2, h3.1.2, h3.1.1⟩
  have cg := g.cg (K := K) (z_keepx K) hK n131
  refine ⟨B.mono (z_keepx K) g hn, ?_, ?_, ?_, ?_, ?_⟩
  · rcases ho with ⟨h1, h2⟩ | h1
    · refine Or.inl ⟨by rw [(e 22 (by omega) (by omega)).1]; exact h1, ?_⟩
      have f := h_full_c cg h2
      refine ⟨fun j hj => by rw [(e 23 (by omega) (by omega)).1]; exact f.1 j hj, fun u a hu hth ha => by rw [(e 24 (by omega) (by omega)).1, (e 25 (by omega) (by omega)).1]; exact f.2.1 u a hu hth ha, fun j hj => by rw [(e 26 (by omega) (by omega)).1]; exact f.2.2 j hj⟩
    · exact Or.inr (by rw [(e 22 (by omega) (by omega)).1]; exact h1)
  · obtain ⟨N, t1, t2, t3, t4⟩ := ht
    refine ⟨N, t1, by rw [(e 9 (by omega) (by omega)).1]; exact t2, by rw [(e 83 (by omega) (by omega)).1]; exact t3, fun i hi => by rw [(e 10 (by omega) (by omega)).1, (e 99 (by omega) (by omega)).1]; exact t4 i hi⟩
  · exact hm.mono (fun a ha => ⟨(e a (by omega) (by omega)).1, (e a (by omega) (by omega)).2.1, (e a (by omega) (by omega)).2.2.1⟩) (fun p D k => k.mono (z_keepx K) g hn)
  · refine hl.mono hn (e 34 (by omega) (by omega)).2.2.1 ⟨(e 104 (by omega) (by omega)).1, (e 105 (by omega) (by omega)).1, (e 106 (by omega) (by omega)).1, (e 107 (by omega) (by omega)).1⟩ (fun a h1 h2 h3 => ⟨(g a h2).1, fun h4 => ((g a h2).2 (x0 a h4 (by omega))).1⟩) hK
  · obtain ⟨c1, c2, c3, c4, c5⟩ := hc
    refine ⟨fun i hi => by rw [(e 11 (by omega) (by omega)).2.1]; exact c1 i hi, fun i hi => by rw [(e 12 (by omega) (by omega)).2.1]; exact c2 i hi, fun i hi => by rw [(e 1 (by omega) (by omega)).1]; exact c3 i hi, fun i hi => by rw [(e 7 (by omega) (by omega)).1]; exact c4 i hi, by rw [(e 4 (by omega) (by omega)).1]; exact c5⟩
/-- where only rows of numbers change, and none that is told of here -/
theorem Inv.rows (h : Inv S I J P K n) (e : ∀ a, (a < 22 ∨ (26 < a ∧ a < 35) ∨ (42 < a ∧ a < 83) ∨ 130 < a ∨ z_cra a = true) → I' a = I a ∧ J' a = J a) (e16 : I' 83 16 = I 83 16) (e32 : I' 83 32 = I 83 32) (ho : h_ok I' J') : Inv S I' J' P K n := by
  obtain ⟨B, -, ht, hm, hl, hc⟩ := h
  have n131 : 131 ≤ n := B.2.2.1.1
  have hK := B.2.2.1.2
  have cg : z_cg I J I' J' := ⟨fun a ha => (e a (Or.inr (Or.inr (Or.inr (Or.inr ha))))).1.symm, e16.symm, e32.symm, fun a ha => (e a (Or.inr (Or.inr (Or.inr (Or.inr ha))))).2.symm⟩
  have gp : ∀ p D, z_pg S I J P K n p D → z_pg S I' J' P K n p D := by
    intro p D k
    have h0 := k.1
    have ep : ∀ a, p ≤ a → I' a = I a ∧ J' a = J a := fun a ha => e a (by omega)
    refine ⟨h0, k.2.1, ⟨by rw [(ep p (by omega)).1]; exact k.2.2.1.1, fun i l hi hl => by rw [(ep (p + 1 + i) (by omega)).2]; exact k.2.2.1.2.1 i l hi hl, fun l hl => by rw [(ep (p + 4) (by omega)).1, (ep (p + 5) (by omega)).1, (ep (p + 6) (by omega)).1, (ep (p + 7) (by omega)).1, (ep (p + 8) (by omega)).1]; exact k.2.2.1.2.2 l hl⟩, fun l hl => by rw [(ep (p + 9) (by omega)).1, (ep (p + 10) (by omega)).1]; exact k.2.2.2.1 l hl, fun q t hq ht => by rw [(ep (p + 12) (by omega)).1]; exact k.2.2.2.2 q t hq ht⟩
  refine ⟨⟨B.1, B.2.1, B.2.2.1, z_iM.mono cg B.2.2.2.1, ?_, fun s hs => ?_⟩, ho, ?_, ?_, ?_, ?_⟩
  · obtain ⟨c1, c2, c3, c4, c5⟩ := B.qC
    have r : ∀ a, (a < 22 ∨ (26 < a ∧ a < 35) ∨ (42 < a ∧ a < 83) ∨ 130 < a) → I' a = I a := fun a ha => (e a (by omega)).1
    refine ⟨fun s hs => ?_, fun v hv => ?_, fun t k ht hk => ?_, fun i hi => ?_, ?_⟩
    · rw [r 14 (by omega), r 15 (by omega), r 16 (by omega), r 17 (by omega), cg.i 85 rfl, cg.i 87 rfl, cg.i 88 rfl, cg.i 89 rfl]; exact c1 s hs
    · rw [r 19 (by omega), cg.i 84 rfl]; exact c2 v hv
    · rw [r (29 + t) (by omega), cg.i 101 rfl]; exact c3 t k ht hk
    · rw [r 33 (by omega), cg.i 103 rfl]; exact c4 i hi
    · rw [r 27 (by omega), e32]; exact c5
  · rw [z_th_c cg, z_Ds_c cg]
    rcases B.pg hs with k | ⟨k1, p, k2, k3⟩
    · exact Or.inl k
    · exact Or.inr ⟨k1, p, k2, gp p _ k3⟩
  · obtain ⟨N, t1, t2, t3, t4⟩ := ht
    exact ⟨N, t1, by rw [(e 9 (by omega)).1]; exact t2, e16.trans t3, fun i hi => by rw [(e 10 (by omega)).1, cg.i 99 rfl]; exact t4 i hi⟩
  · refine hm.mono (fun a ha => ?_) gp
    by_cases c : 125 ≤ a
    · have : z_cra a = true := by unfold z_cra; simp only [Bool.or_eq_true, Bool.and_eq_true, decide_eq_true_eq, beq_iff_eq]; omega
      exact ⟨(e a (by simp [this])).1, (e a (by simp [this])).2, rfl⟩
    · exact ⟨(e a (by omega)).1, (e a (by omega)).2, rfl⟩
  · refine hl.mono (Nat.le_refl _) rfl ⟨?_, ?_, ?_, ?_⟩ (fun a h1 h2 h3 => ⟨⟨rfl, rfl⟩, fun _ => (e a (by omega)).1⟩) hK
    · funext i; exact cg.i 104 rfl i
    · funext i; exact cg.i 105 rfl i
    · funext i; exact cg.i 106 rfl i
    · funext i; exact cg.i 107 rfl i
  · obtain ⟨c1, c2, c3, c4, c5⟩ := hc
    refine ⟨fun i hi => by rw [(e 11 (by omega)).2]; exact c1 i hi, fun i hi => by rw [(e 12 (by omega)).2]; exact c2 i hi, fun i hi => by rw [(e 1 (by omega)).1]; exact c3 i hi, fun i hi => by rw [(e 7 (by omega)).1]; exact c4 i hi, by rw [(e 4 (by omega)).1]; exact c5⟩
theorem h_ok.mf (h : h_ok I J) (m : z_mf I J I' J') : h_ok I' J' := by
  have r : ∀ a, a < 83 → I' a = I a := fun a ha => (m.1 a (Or.inl ha)).1
  rcases h with ⟨h1, h2⟩ | h1
  · refine Or.inl ⟨by rw [r 22 (by omega)]; exact h1, ?_⟩
    have f := h_full_c m.cg h2
    exact ⟨fun j hj => by rw [r 23 (by omega)]; exact f.1 j hj, fun u a hu hth ha => by rw [r 24 (by omega), r 25 (by omega)]; exact f.2.1 u a hu hth ha, fun j hj => by rw [r 26 (by omega)]; exact f.2.2 j hj⟩
  · exact Or.inr (by rw [r 22 (by omega)]; exact h1)
theorem Inv.mf (h : Inv S I J P K n) (m : z_mf I J I' J') : Inv S I' J' P K n := by
  refine h.rows (fun a ha => m.1 a ?_) m.2.1 m.2.2 (h.2.1.mf m)
  rcases ha with q | q | q | q | q
  · omega
  · omega
  · omega
  · omega
  · exact Or.inr (Or.inr q)
theorem Inv.ho (h : Inv S I J P K n) (e : ∀ a, (a < 22 ∨ 26 < a) → I' a = I a) (ho : h_ok I' J) : Inv S I' J P K n := by
  refine h.rows (fun a ha => ⟨e a ?_, rfl⟩) (by rw [e 83 (by omega)]) (by rw [e 83 (by omega)]) ho
  rcases ha with q | q | q | q | q
  · omega
  · omega
  · omega
  · omega
  · have := z_cra_lt q; omega
end
