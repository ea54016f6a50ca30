/-! READ: the pair. -/
section
variable {S S' : z_SH} {I X : z_MI} {J Z : z_MJ} {P P' : z_MP} {K : Nat → Bool} {n n' : Nat}
def k_It (n : Nat) (I X : z_MI) : z_MI := fun a => if a = 9 ∨ a = 83 then X a else if a < n then I a else X a
def k_Jt (n : Nat) (J Z : z_MJ) : z_MJ := fun a => if a = 9 ∨ a = 83 then Z a else if a < n then J a else Z a
def k_Pt (n : Nat) (P P' : z_MP) : z_MP := fun a => if a < n then P a else P' a
theorem k_It_o {a : Nat} (h : a < n) (h9 : a ≠ 9) (h83 : a ≠ 83) : k_It n I X a = I a := by unfold k_It; rw [if_neg (by omega), if_pos h]
theorem k_Jt_o {a : Nat} (h : a < n) (h9 : a ≠ 9) (h83 : a ≠ 83) : k_Jt n J Z a = J a := by unfold k_Jt; rw [if_neg (by omega), if_pos h]
theorem k_It_n {a : Nat} (h : n ≤ a) : k_It n I X a = X a := by unfold k_It; rw [if_neg (show ¬ a < n by omega)]; split <;> rfl
theorem k_Jt_n {a : Nat} (h : n ≤ a) : k_Jt n J Z a = Z a := by unfold k_Jt; rw [if_neg (show ¬ a < n by omega)]; split <;> rfl
theorem k_It_9 {a : Nat} (h : a = 9 ∨ a = 83) : k_It n I X a = X a := if_pos h
theorem k_Jt_9 {a : Nat} (h : a = 9 ∨ a = 83) : k_Jt n J Z a = Z a := if_pos h
theorem k_Pt_o {a : Nat} (h : a < n) : k_Pt n P P' a = P a := if_pos h
theorem k_Pt_n {a : Nat} (h : n ≤ a) : k_Pt n P P' a = P' a := if_neg (by omega)
theorem k_end (H : Inv S I J P K n) (hn : n ≤ n') (g : ∀ a, a < n → S' a = S a) (t1 : X 9 1 = z_n 0) (t2 : X 83 16 = z_n 0) (t3 : X 83 32 = I 83 32) : Inv S' (k_It n I X) (k_Jt n J Z) (k_Pt n P P') (k_Kn K n) n' := by
  have n131 : 131 ≤ n := H.1.2.2.1.1
  have A : Inv S' (fun a => if a < n then I a else X a) (fun a => if a < n then J a else Z a) (k_Pt n P P') (k_Kn K n) n' := H.kn.ag (fun a ha => ⟨⟨g a ha, if_pos ha⟩, fun _ => ⟨if_pos ha, if_pos ha⟩⟩) hn
  refine A.tape (fun a ha => ⟨if_neg (by omega), if_neg (by omega)⟩) ?_ ⟨0, by omega, (congrFun (k_It_9 (Or.inl rfl)) 1).trans t1, (congrFun (k_It_9 (Or.inr rfl)) 16).trans t2, fun i hi => absurd hi (by omega)⟩
  rw [if_pos (show 83 < n by omega)]
  exact (congrFun (k_It_9 (Or.inr rfl)) 32).trans t3
theorem k_deq {t : Nat} (e : X 90 t = I 90 t) (le : z_ln I t ≤ 12) (hI : ∀ k i, k < 5 → 12 * t ≤ i → i < 12 * t + 12 → X (91 + k) i = I (91 + k) i) (hJ : ∀ k i, k < 3 → 12 * t ≤ i → i < 12 * t + 12 → Z (96 + k) i = J (96 + k) i) : d_eq (z_Ds I J t) (z_Ds X Z t) := by
  refine ⟨?_, fun l hl => ⟨fun k hk => ?_, fun k hk => ?_⟩⟩
  · show z_ln I t = z_ln X t
    unfold z_ln
    rw [e]
  · have hl' : l < z_ln I t := hl
    show (if k < 5 then I (91 + k) (12 * t + l) else z_n 0) = if k < 5 then X (91 + k) (12 * t + l) else z_n 0
    rw [if_pos hk, if_pos hk, hI k _ hk (by omega) (by omega)]
  · have hl' : l < z_ln I t := hl
    show (if k < 3 then J (96 + k) (12 * t + l) else 0) = if k < 3 then Z (96 + k) (12 * t + l) else 0
    rw [if_pos hk, if_pos hk, hJ k _ hk (by omega) (by omega)]
theorem k_deq' {D : z_D} {t : Nat} (e : X 90 t = z_n D.1) (ok : d_ok D) (hI : ∀ k l, k < 5 → l < D.1 → X (91 + k) (12 * t + l) = D.2.1 k l) (hJ : ∀ k l, k < 3 → l < D.1 → Z (96 + k) (12 * t + l) = D.2.2 k l) : d_eq D (z_Ds X Z t) := by
  have := ok.1
  refine ⟨?_, fun l hl => ⟨fun k hk => ?_, fun k hk => ?_⟩⟩
  · show D.1 = (X 90 t).toNatClampNeg
    rw [e, z_n_nat (by omega)]
  · show D.2.1 k l = if k < 5 then X (91 + k) (12 * t + l) else z_n 0
    rw [if_pos hk, hI k l hk hl]
  · show D.2.2 k l = if k < 3 then Z (96 + k) (12 * t + l) else 0
    rw [if_pos hk, hJ k l hk hl]
/-- what may change in a call of READ -/
def k_fz (n : Nat) (I : z_MI) (J : z_MJ) (X : z_MI) (Z : z_MJ) : Prop := (∀ a, a < n → a ≠ 9 → a ≠ 22 → a ≠ 83 → a ≠ 86 → (a < 90 ∨ 95 < a) → X a = I a) ∧ (∀ a, a < n → a ≠ 9 → a ≠ 83 → (a < 96 ∨ 98 < a) → Z a = J a)
theorem k_set (H : Inv S I J P K n) (hn : n ≤ n') (g : ∀ a, a < n → S' a = S a ∧ (a ≠ 18 → P' a = P a)) (fr : k_fz n I J X Z) (t1 : X 9 1 = z_n 0) (t2 : X 83 16 = z_n 0) (t3 : X 83 32 = I 83 32)
    (hD : ∀ t, t < 24 → d_ok (z_Ds X Z t) ∧ X 90 t = z_n (z_ln X t)) (h86 : ∀ t, t < 24 → X 86 t = I 86 t ∨ (X 86 t = z_n 1 ∧ I 85 t = z_n 1)) (ho : h_ok X Z)
    (hp : ∀ t, t < 24 → (z_th X t = false ∧ P' 18 t = none) ∨ (z_th X t = true ∧ ∃ p, P' 18 t = some p ∧ z_pg S' (k_It n I X) (k_Jt n J Z) (k_Pt n P P') (k_Kn K n) n' p (z_Ds X Z t))) : Inv S' X Z P' (k_Kn K n) n' := by
  have A := k_end (P' := P') (Z := Z) H hn (fun a ha => (g a ha).1) t1 t2 t3
  have B := H.1
  have n131 : 131 ≤ n := B.2.2.1.1
  obtain ⟨m1, m2, m3, m4, m5, m6, m7⟩ := B.2.2.2.1
  obtain ⟨c1, c2, c3, c4, c5⟩ := B.qC
  have r : ∀ a, a < 131 → a ≠ 9 → a ≠ 22 → a ≠ 83 → a ≠ 86 → (a < 90 ∨ 95 < a) → X a = I a := fun a h1 h2 h3 h4 h5 h6 => fr.1 a (by omega) h2 h3 h4 h5 h6
  refine A.set (fun a ha => ?_) (by rw [k_It_9 (Or.inr rfl)]) (fun a ha => ?_) ⟨fun t ht => ⟨(hD t ht).2, (hD t ht).1.1⟩, fun t ht => ?_, fun t ht => (hD t ht).1, fun t ht => ?_, fun v hv => ?_, fun i hi => ?_, ?_⟩ ⟨fun t ht => ?_, fun v hv => ?_, fun t k ht hk => ?_, fun i hi => ?_, ?_⟩ ho hp
  · by_cases h9 : a = 9
    · rw [k_It_9 (Or.inl h9), k_Jt_9 (Or.inl h9)]; exact ⟨rfl, rfl⟩
    by_cases h83 : a = 83
    · omega
    by_cases hl : a < n
    · rw [k_It_o hl h9 h83, k_Jt_o hl h9 h83]
      exact ⟨fr.1 a hl h9 (by omega) h83 (by omega) (by omega), fr.2 a hl h9 h83 (by omega)⟩
    · rw [k_It_n (by omega), k_Jt_n (by omega)]; exact ⟨rfl, rfl⟩
  · by_cases hl : a < n
    · rw [k_Pt_o hl]; exact (g a hl).2 ha
    · rw [k_Pt_n (by omega)]
  · unfold z_vi
    rw [r 87 (by omega) (by omega) (by omega) (by omega) (by omega) (by omega)]; exact m2 t ht
  · obtain ⟨x1, x2, x3, x4, x5⟩ := m4 t ht
    rw [r 85 (by omega) (by omega) (by omega) (by omega) (by omega) (by omega), r 88 (by omega) (by omega) (by omega) (by omega) (by omega) (by omega), r 89 (by omega) (by omega) (by omega) (by omega) (by omega) (by omega)]
    rcases h86 t ht with q | ⟨q1, q2⟩
    · rw [q]; exact ⟨x1, x2, x3, x4, x5⟩
    · exact ⟨x1, Or.inr q1, fun _ => q2, x4, x5⟩
  · rw [r 84 (by omega) (by omega) (by omega) (by omega) (by omega) (by omega)]; exact m5 v hv
  · rw [r 101 (by omega) (by omega) (by omega) (by omega) (by omega) (by omega)]; exact m6 i hi
  · rw [t3, r 103 (by omega) (by omega) (by omega) (by omega) (by omega) (by omega)]; exact m7
  · rw [r 14 (by omega) (by omega) (by omega) (by omega) (by omega) (by omega), r 15 (by omega) (by omega) (by omega) (by omega) (by omega) (by omega), r 16 (by omega) (by omega) (by omega) (by omega) (by omega) (by omega), r 17 (by omega) (by omega) (by omega) (by omega) (by omega) (by omega), r 85 (by omega) (by omega) (by omega) (by omega) (by omega) (by omega), r 87 (by omega) (by omega) (by omega) (by omega) (by omega) (by omega), r 88 (by omega) (by omega) (by omega) (by omega) (by omega) (by omega), r 89 (by omega) (by omega) (by omega) (by omega) (by omega) (by omega)]
    exact c1 t ht
  · rw [r 19 (by omega) (by omega) (by omega) (by omega) (by omega) (by omega), r 84 (by omega) (by omega) (by omega) (by omega) (by omega) (by omega)]; exact c2 v hv
  · rw [r (29 + t) (by omega) (by omega) (by omega) (by omega) (by omega) (by omega), r 101 (by omega) (by omega) (by omega) (by omega) (by omega) (by omega)]; exact c3 t k ht hk
  · rw [r 33 (by omega) (by omega) (by omega) (by omega) (by omega) (by omega), r 103 (by omega) (by omega) (by omega) (by omega) (by omega) (by omega)]; exact c4 i hi
  · rw [r 27 (by omega) (by omega) (by omega) (by omega) (by omega) (by omega), t3]; exact c5
end
