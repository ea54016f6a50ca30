/-! ONE HOUSES: the class: lines that are one. -/
section
variable {S : z_SH} {I X : z_MI} {J : z_MJ} {P : z_MP} {K : Nat → Bool} {n : Nat × Nat}
/-- what is KNOWN so far: M t u of the sheets were met -/
def h_kn (I : z_MI) (J : z_MJ) (M : Nat → Nat → Nat) (X : z_MI) : Prop := ∀ u a, u < 24 → z_th I u = true → a < z_ln I u → X 24 (u * 12 + a) = h_kf I J u a (M u a) ∧ X 25 (u * 12 + a) = h_kl I J u a (M u a)
theorem h_kn.eq {M M' : Nat → Nat → Nat} (h : h_kn I J M X) (e : ∀ u a, u < 24 → z_th I u = true → a < z_ln I u → h_kf I J u a (M' u a) = h_kf I J u a (M u a) ∧ h_kl I J u a (M' u a) = h_kl I J u a (M u a)) : h_kn I J M' X := by
  intro u a hu ht ha
  obtain ⟨e1, e2⟩ := e u a hu ht ha
  rw [e1, e2]
  exact h u a hu ht ha
set_option maxRecDepth 100000 in
set_option maxHeartbeats 4000000 in
theorem C_begin (B : z_B S I J P K n.1) (hX : ∀ a, (a < 22 ∨ 26 < a) → X a = I a) {s : Nat} (hs : s < 24) : ∃ Y, f_Ho_begin 22 13 (z_n s) (z_h S X J P n) = some ((), z_h S Y J P n) ∧ (∀ a, (a < 23 ∨ 26 < a) → Y a = X a) ∧ (∀ j, Y 23 j = if j = s then z_n s else X 23 j) ∧ (∀ j, Y 26 j = if s * 4 ≤ j ∧ j < s * 4 + 4 then z_n 0 else X 26 j) ∧ (∀ j, ¬ (s * 12 ≤ j ∧ j < s * 12 + 12) → Y 24 j = X 24 j ∧ Y 25 j = X 25 j) ∧ (z_th I s = true → ∀ a, a < z_ln I s → Y 24 (s * 12 + a) = h_fb I J s a ∧ Y 25 (s * 12 + a) = h_lb I J s a) := by
  have hS := B.qS
  have hP := B.qP
  have l12 : z_ln I s ≤ 12 := (B.qD hs).1
  have hob := fun I J => z_ob (I := I) (J := J) (P := P) (n := n) (s_13 hS)
  obtain ⟨X9, a1, a2, a3⟩ := C_begin9 (I := z_up X 23 s (z_n s)) (J := J) (n := n) hS hP hs
  have h9 : ∀ a, (a < 22 ∨ 26 < a) → X9 a = I a := fun a ha => by rw [a2 a (by omega), z_up_r (by omega)]; exact hX a ha
  have p1 := C_pageOf (I := X9) (J := J) (n := n) hS hP hs
  have e23 : ∀ j, X9 23 j = if j = s then z_n s else X 23 j := fun j => by rw [a2 23 (by decide), z_up_e]
  have e26 : ∀ j, X9 26 j = if s * 4 ≤ j ∧ j < s * 4 + 4 then z_n 0 else X 26 j := fun j => by rw [a3, z_up_r (by decide)]
  have e24 : X9 24 = X 24 ∧ X9 25 = X 25 := ⟨by rw [a2 24 (by decide), z_up_r (by decide)], by rw [a2 25 (by decide), z_up_r (by decide)]⟩
  by_cases ht : z_th I s = true
  · obtain ⟨p, b1, b2, b3⟩ := h_pg B h9 hs ht
    have h131 : 131 ≤ p := by
      rcases B.pg hs with ⟨h1, h2⟩ | ⟨h1, q, h2, h3⟩
      · rw [h1] at ht; cases ht
      · rw [h2] at b1; cases b1; exact h3.1.1
    obtain ⟨Y, c1, c2, c3⟩ := C_begin40 (n := n) B h9 hs b2 b3 h131
    refine ⟨Y, ?_, fun a ha => ?_, fun j => by rw [c2 23 (by decide) (by decide)]; exact e23 j, fun j => by rw [c2 26 (by decide) (by decide)]; exact e26 j, fun j hj => ?_, fun _ a ha => ?_⟩
    · simp (disch := omega) only [f_Ho_begin, z_Hor hS hP, z_How hS, a1, hob, p1, b1, c1, or_true, true_or, or_false, false_or, z_b_T, z_b_F, Bool.false_eq_true, Classical.not_not, decide_eq_true_eq, z_sq, Option.bind_some, z_lits, z_n_add, z_n_mul, z_lt, z_le, z_eq, z_ne1, z_1ne, z_lt1, z_1lt, z_ltT, z_ltF, z_leT, z_leF, z_eqF, z_b_0, z_b_1, ↓reduceIte, eq_self, not_true_eq_false, not_false_eq_true, and_true, true_and, and_false, false_and, Nat.add_zero, Nat.zero_add]
    · rw [c2 a (by omega) (by omega), a2 a (by omega), z_up_r (by omega)]
    · rw [(c3 j).1, (c3 j).2, if_neg (by omega), if_neg (by omega), e24.1, e24.2]
      exact ⟨rfl, rfl⟩
    · rw [(c3 _).1, (c3 _).2, if_pos (by omega), if_pos (by omega), Nat.add_sub_cancel_left]
      exact ⟨rfl, rfl⟩
  · have b1 := h_pn B hs ht
    refine ⟨X9, ?_, fun a ha => ?_, e23, e26, fun j _ => by rw [e24.1, e24.2]; exact ⟨rfl, rfl⟩, fun q => absurd q ht⟩
    · have c1 : f_Ho_begin_L40 22 13 (z_n s) none q_FU (z_n 0) (z_h S X9 J P n) = some ((), z_h S X9 J P n) := rfl
      simp (disch := omega) only [f_Ho_begin, z_Hor hS hP, z_How hS, a1, hob, p1, b1, c1, or_true, true_or, or_false, false_or, z_b_T, z_b_F, Bool.false_eq_true, Classical.not_not, decide_eq_true_eq, z_sq, Option.bind_some, z_lits, z_n_add, z_n_mul, z_lt, z_le, z_eq, z_ne1, z_1ne, z_lt1, z_1lt, z_ltT, z_ltF, z_leT, z_leF, z_eqF, z_b_0, z_b_1, ↓reduceIte, eq_self, not_true_eq_false, not_false_eq_true, and_true, true_and, and_false, false_and, Nat.add_zero, Nat.zero_add]
    · rw [a2 a (by omega), z_up_r (by omega)]
set_option maxRecDepth 100000 in
set_option maxHeartbeats 4000000 in
theorem C_ref15 (B : z_B S I J P K n.1) (hX : ∀ a, (a < 22 ∨ 26 < a) → X a = I a) : ∃ Y, f_Ho_refresh_L15 22 13 q_FU (z_n 0) (z_h S X J P n) = some ((), z_h S Y J P n) ∧ (∀ a, (a < 23 ∨ 26 < a) → Y a = X a) ∧ (∀ j, j < 24 → Y 23 j = z_n j) ∧ (∀ j, j < 96 → Y 26 j = z_n 0) ∧ h_kn I J (fun _ _ => 0) Y := by
  have hS := B.qS
  have hP := B.qP
  have hob := fun I J => z_ob (I := I) (J := J) (P := P) (n := n) (s_22 hS)
  exact z_runI (fun m i (Y : z_MI) => f_Ho_refresh_L15 22 13 m (z_n i) (z_h S Y J P n)) 24
    (fun i Y => (∀ a, (a < 23 ∨ 26 < a) → Y a = X a) ∧ (∀ j, j < i → Y 23 j = z_n j) ∧ (∀ j, j < i * 4 → Y 26 j = z_n 0) ∧ ∀ u a, u < i → z_th I u = true → a < z_ln I u → Y 24 (u * 12 + a) = h_fb I J u a ∧ Y 25 (u * 12 + a) = h_lb I J u a)
    (fun r => ∃ Y, r = some ((), z_h S Y J P n) ∧ (∀ a, (a < 23 ∨ 26 < a) → Y a = X a) ∧ (∀ j, j < 24 → Y 23 j = z_n j) ∧ (∀ j, j < 96 → Y 26 j = z_n 0) ∧ h_kn I J (fun _ _ => 0) Y) (by omega)
    (by
      intro m i Y hi ⟨q1, q2, q3, q4⟩
      have hY : ∀ a, (a < 22 ∨ 26 < a) → Y a = I a := fun a ha => (q1 a (by omega)).trans (hX a ha)
      obtain ⟨Z, a1, a2, a3, a4, a5, a6⟩ := C_begin (n := n) B hY hi
      refine ⟨Z, ⟨fun a ha => (a2 a ha).trans (q1 a ha), fun j hj => ?_, fun j hj => ?_, fun u a hu ht ha => ?_⟩, ?_⟩
      · rw [a3]
        by_cases e : j = i
        · rw [if_pos e, e]
        · rw [if_neg e]; exact q2 j (by omega)
      · rw [a4]
        by_cases e : i * 4 ≤ j ∧ j < i * 4 + 4
        · rw [if_pos e]
        · rw [if_neg e]; exact q3 j (by omega)
      · by_cases e : u = i
        · subst e; exact a6 ht a ha
        · have l12 : z_ln I u ≤ 12 := (B.qD (show u < 24 by omega)).1
          rw [(a5 (u * 12 + a) (by omega)).1, (a5 (u * 12 + a) (by omega)).2]
          exact q4 u a (by omega) ht ha
      · simp (disch := omega) only [f_Ho_refresh_L15, hi, hob, a1, or_true, true_or, or_false, false_or, z_b_T, z_b_F, Bool.false_eq_true, Classical.not_not, decide_eq_true_eq, z_sq, Option.bind_some, z_lits, z_n_add, z_n_mul, z_lt, z_le, z_eq, z_ne1, z_1ne, z_lt1, z_1lt, z_ltT, z_ltF, z_leT, z_leF, z_eqF, z_b_0, z_b_1, ↓reduceIte, eq_self, not_true_eq_false, not_false_eq_true, and_true, true_and, and_false, false_and, Nat.add_zero, Nat.zero_add])
    (by
      intro m Y ⟨q1, q2, q3, q4⟩
      refine ⟨Y, ?_, q1, q2, q3, q4⟩
      simp (disch := omega) only [f_Ho_refresh_L15, Nat.lt_irrefl, or_true, true_or, or_false, false_or, z_b_T, z_b_F, Bool.false_eq_true, Classical.not_not, decide_eq_true_eq, z_sq, Option.bind_some, z_lits, z_n_add, z_n_mul, z_lt, z_le, z_eq, z_ne1, z_1ne, z_lt1, z_1lt, z_ltT, z_ltF, z_leT, z_leF, z_eqF, z_b_0, z_b_1, ↓reduceIte, eq_self, not_true_eq_false, not_false_eq_true, and_true, true_and, and_false, false_and, Nat.add_zero, Nat.zero_add])
    (x := X) ⟨fun _ _ => rfl, fun j hj => absurd hj (Nat.not_lt_zero _), fun j hj => by omega, fun u a hu => absurd hu (Nat.not_lt_zero _)⟩
set_option maxRecDepth 100000 in
set_option maxHeartbeats 4000000 in
theorem C_narrow (hS : z_St S) (hP : z_Pt P) {k : Nat} {x y : Int32} (hk : k < 288) : f_Ho_narrow 22 (z_n k) x y (z_h S I J P n) = some ((), z_h S (z_up (z_up I 24 k (if I 24 k < x then x else I 24 k)) 25 k (if y < I 25 k then y else I 25 k)) J P n) := by
  have e : ∀ v, z_up I 24 k v 25 k = I 25 k := fun v => by rw [z_up_r (by decide)]
  simp (disch := omega) only [f_Ho_narrow, z_Hor hS hP, z_How hS, e, or_true, true_or, or_false, false_or, z_b_T, z_b_F, Bool.false_eq_true, Classical.not_not, decide_eq_true_eq, z_sq, Option.bind_some, z_lits, z_n_add, z_n_mul, z_lt, z_le, z_eq, z_ne1, z_1ne, z_lt1, z_1lt, z_ltT, z_ltF, z_leT, z_leF, z_eqF, z_b_0, z_b_1, ↓reduceIte, eq_self, not_true_eq_false, not_false_eq_true, and_true, true_and, and_false, false_and, Nat.add_zero, Nat.zero_add]
def h_pr (s t u : Nat) : Nat := if u < s then 24 else if u = s then t else if u < t then s + 1 else s
def h_pi (I : z_MI) (J : z_MJ) (s t i u a : Nat) : Nat := if u = s then (if a < i then t + 1 else t) else if u = t then (if h_on I J t s a < i then s + 1 else s) else h_pr s t u
set_option maxRecDepth 100000 in
set_option maxHeartbeats 4000000 in
theorem C_join41 (B : z_B S I J P K n.1) (hX : ∀ a, (a < 22 ∨ 26 < a) → X a = I a) {s t p q : Nat} (hst : s < t) (ht : t < 24) (sh : h_sh I s t = true) (hp : z_ps S P p) (hq : z_ps S P q) (h131 : 131 ≤ p ∧ 131 ≤ q) (hd : z_pd X J p (z_Ds I J s)) (he : z_pd X J q (z_Ds I J t)) (hk : h_kn I J (h_pi I J s t 0) X) : ∃ Y, f_Ho_join_L41 22 13 (z_n s) (z_n t) p q q_FU (z_n 0) (z_n 0) (z_h S X J P n) = some (z_n (h_nj I J s t), z_h S Y J P n) ∧ (∀ a, a ≠ 24 → a ≠ 25 → Y a = X a) ∧ h_kn I J (h_pi I J s t (z_ln I s)) Y := by
  have hS := B.qS
  have hP := B.qP
  have hs : s < 24 := by omega
  have l12 : z_ln I s ≤ 12 := (B.qD hs).1
  have t12 : z_ln I t ≤ 12 := (B.qD ht).1
  have ts := sh
  rw [h_sh_i] at ts
  have hob := fun I J => z_ob (I := I) (J := J) (P := P) (n := n) (s_13 hS)
  have hob2 := fun I J => z_ob (I := I) (J := J) (P := P) (n := n) (s_22 hS)
  have r1 := z_ps_r hp
  exact z_runI (fun m i (Y : z_MI) => f_Ho_join_L41 22 13 (z_n s) (z_n t) p q m (z_n (z_sum i fun a => if h_on I J s t a < z_ln I t then 1 else 0)) (z_n i) (z_h S Y J P n)) (z_ln I s)
    (fun i Y => (∀ a, a ≠ 24 → a ≠ 25 → Y a = X a) ∧ h_kn I J (h_pi I J s t i) Y)
    (fun r => ∃ Y, r = some (z_n (h_nj I J s t), z_h S Y J P n) ∧ (∀ a, a ≠ 24 → a ≠ 25 → Y a = X a) ∧ h_kn I J (h_pi I J s t (z_ln I s)) Y) (by omega)
    (by
      intro m i Y hi ⟨q1, q2⟩
      have hY : ∀ a, (a < 22 ∨ 26 < a) → Y a = I a := fun a ha => (q1 a (by omega) (by omega)).trans (hX a ha)
      have hdY : z_pd Y J p (z_Ds I J s) := z_pd_of hd (fun a ha => q1 a (by omega) (by omega))
      have heY : z_pd Y J q (z_Ds I J t) := z_pd_of he (fun a ha => q1 a (by omega) (by omega))
      have sz : Y p 0 = z_n (z_ln I s) := hdY.1
      have mt := C_mt (n := n) B hY hs ht hp hq hdY heY hi sh
      by_cases hj : h_on I J s t i < z_ln I t
      · have sym := fun b (hb : b < z_ln I t) => h_on_s (I := I) (J := J) (s := s) (t := t) (a := i) (b := b) (B.qD hs) (B.qD ht) hi hb
        have hts : h_on I J t s (h_on I J s t i) = i := (sym _ hj).mp rfl
        rw [if_pos hj] at mt
        have e0 : (if h_on I J s t i < z_ln I t then 1 else 0) = 1 := if_pos hj
        obtain ⟨f1, f2⟩ := C_fbX (n := n) B hY ht hq heY hj
        have kI := q2 s i hs ts.1 hi
        have kJ := q2 t (h_on I J s t i) ht ts.2.1 hj
        have eI : h_pi I J s t i s i = t := by unfold h_pi; rw [if_pos rfl, if_neg (Nat.lt_irrefl _)]
        have eJ : h_pi I J s t i t (h_on I J s t i) = s := by unfold h_pi; rw [if_neg (by omega), if_pos rfl, hts, if_neg (Nat.lt_irrefl _)]
        rw [eI] at kI
        rw [eJ] at kJ
        generalize hjj : h_on I J s t i = j at *
        have nr1 := C_narrow (I := Y) (J := J) (n := n) hS hP (k := s * 12 + i) (x := h_fb I J t j) (y := h_lb I J t j) (by omega)
        have w24 : Y 24 (s * 12 + i) = h_kf I J s i t := kI.1
        have w25 : Y 25 (s * 12 + i) = h_kl I J s i t := kI.2
        have g1 : h_kf I J s i (t + 1) = if Y 24 (s * 12 + i) < h_fb I J t j then h_fb I J t j else Y 24 (s * 12 + i) := by rw [h_kf, hjj, if_pos hj, w24]
        have g2 : h_kl I J s i (t + 1) = if h_lb I J t j < Y 25 (s * 12 + i) then h_lb I J t j else Y 25 (s * 12 + i) := by rw [h_kl, hjj, if_pos hj, w25]
        rw [← g1, ← g2] at nr1
        generalize hZ : z_up (z_up Y 24 (s * 12 + i) (h_kf I J s i (t + 1))) 25 (s * 12 + i) (h_kl I J s i (t + 1)) = Z at *
        have z1 : ∀ a, a ≠ 24 → a ≠ 25 → Z a = Y a := fun a h4 h5 => by rw [← hZ, z_up_r h5, z_up_r h4]
        have z24 : ∀ k, Z 24 k = if k = s * 12 + i then h_kf I J s i (t + 1) else Y 24 k := fun k => by rw [← hZ, z_up_r (by decide), z_up_e]
        have z25 : ∀ k, Z 25 k = if k = s * 12 + i then h_kl I J s i (t + 1) else Y 25 k := fun k => by rw [← hZ, z_up_e, z_up_r (by decide)]
        have hZI : ∀ a, (a < 22 ∨ 26 < a) → Z a = I a := fun a ha => (z1 a (by omega) (by omega)).trans (hY a ha)
        have hdZ : z_pd Z J p (z_Ds I J s) := z_pd_of hdY (fun a ha => z1 a (by omega) (by omega))
        obtain ⟨f3, f4⟩ := C_fbX (n := n) B hZI hs hp hdZ hi
        have nr2 := C_narrow (I := Z) (J := J) (n := n) hS hP (k := t * 12 + j) (x := h_fb I J s i) (y := h_lb I J s i) (by omega)
        have v24 : Z 24 (t * 12 + j) = h_kf I J t j s := by rw [z24, if_neg (by omega)]; exact kJ.1
        have v25 : Z 25 (t * 12 + j) = h_kl I J t j s := by rw [z25, if_neg (by omega)]; exact kJ.2
        have g3 : h_kf I J t j (s + 1) = if Z 24 (t * 12 + j) < h_fb I J s i then h_fb I J s i else Z 24 (t * 12 + j) := by rw [h_kf, hts, if_pos hi, v24]
        have g4 : h_kl I J t j (s + 1) = if h_lb I J s i < Z 25 (t * 12 + j) then h_lb I J s i else Z 25 (t * 12 + j) := by rw [h_kl, hts, if_pos hi, v25]
        rw [← g3, ← g4] at nr2
        refine ⟨z_up (z_up Z 24 (t * 12 + j) (h_kf I J t j (s + 1))) 25 (t * 12 + j) (h_kl I J t j (s + 1)), ⟨fun a h4 h5 => by rw [z_up_r h5, z_up_r h4, z1 a h4 h5]; exact q1 a h4 h5, fun u a hu hth ha => ?_⟩, ?_⟩
        · have u12 : z_ln I u ≤ 12 := (B.qD hu).1
          rw [z_up_r (show (24 : Nat) ≠ 25 by decide), z_up_e, z_up_e, z_up_r (show (25 : Nat) ≠ 24 by decide), z24, z25]
          have old := q2 u a hu hth ha
          by_cases c1 : u = s
          · subst c1
            have n1 : (u * 12 + a = t * 12 + j) = False := eq_false (by omega)
            by_cases c2 : a = i
            · subst c2
              have e : h_pi I J u t (a + 1) u a = t + 1 := by unfold h_pi; rw [if_pos rfl, if_pos (by omega)]
              rw [e]
              simp only [n1, ↓reduceIte]
              exact ⟨trivial, trivial⟩
            · have n2 : (u * 12 + a = u * 12 + i) = False := eq_false (by omega)
              have e : h_pi I J u t (i + 1) u a = h_pi I J u t i u a := by
                unfold h_pi
                rw [if_pos rfl, if_pos rfl]
                by_cases c3 : a < i
                · rw [if_pos (by omega), if_pos c3]
                · rw [if_neg (by omega), if_neg c3]
              rw [e]
              simp only [n1, n2, ↓reduceIte]
              exact old
          · by_cases c2 : u = t
            · subst c2
              have n2 : (u * 12 + a = s * 12 + i) = False := eq_false (by omega)
              by_cases c3 : a = j
              · subst c3
                have e : h_pi I J s u (i + 1) u a = s + 1 := by unfold h_pi; rw [if_neg c1, if_pos rfl, hts, if_pos (by omega)]
                rw [e]
                simp only [↓reduceIte]
                exact ⟨trivial, trivial⟩
              · have n1 : (u * 12 + a = u * 12 + j) = False := eq_false (by omega)
                have ne : h_on I J u s a ≠ i := fun q => by
                  have := (sym a ha).mpr q
                  omega
                have e : h_pi I J s u (i + 1) u a = h_pi I J s u i u a := by
                  unfold h_pi
                  rw [if_neg c1, if_neg c1, if_pos rfl, if_pos rfl]
                  by_cases c4 : h_on I J u s a < i
                  · rw [if_pos (by omega), if_pos c4]
                  · rw [if_neg (by omega), if_neg c4]
                rw [e]
                simp only [n1, n2, ↓reduceIte]
                exact old
            · have n1 : (u * 12 + a = t * 12 + j) = False := eq_false (by omega)
              have n2 : (u * 12 + a = s * 12 + i) = False := eq_false (by omega)
              have e : h_pi I J s t (i + 1) u a = h_pi I J s t i u a := by
                unfold h_pi
                rw [if_neg c1, if_neg c1, if_neg c2, if_neg c2]
              rw [e]
              simp only [n1, n2, ↓reduceIte]
              exact old
        · have ne1 : (z_n j = -z_n 1) = False := z_ne1 (by omega)
          simp (disch := omega) only [f_Ho_join_L41, r1, sz, hi, hob, mt, ne1, z_sum_s, hjj, if_pos hj, or_true, true_or, or_false, false_or, z_b_T, z_b_F, Bool.false_eq_true, Classical.not_not, decide_eq_true_eq, z_sq, Option.bind_some, z_lits, z_n_add, z_n_mul, z_lt, z_le, z_eq, z_ne1, z_1ne, z_lt1, z_1lt, z_ltT, z_ltF, z_leT, z_leF, z_eqF, z_b_0, z_b_1, ↓reduceIte, eq_self, not_true_eq_false, not_false_eq_true, and_true, true_and, and_false, false_and, Nat.add_zero, Nat.zero_add]
          rw [f1, z_sq]
          simp (disch := omega) only [hob, or_true, true_or, or_false, false_or, z_b_T, z_b_F, Bool.false_eq_true, Classical.not_not, decide_eq_true_eq, z_sq, Option.bind_some, z_lits, z_n_add, z_n_mul, z_lt, z_le, z_eq, z_ne1, z_1ne, z_lt1, z_1lt, z_ltT, z_ltF, z_leT, z_leF, z_eqF, z_b_0, z_b_1, ↓reduceIte, eq_self, not_true_eq_false, not_false_eq_true, and_true, true_and, and_false, false_and, Nat.add_zero, Nat.zero_add]
          rw [f2, z_sq]
          simp (disch := omega) only [hob2, or_true, true_or, or_false, false_or, z_b_T, z_b_F, Bool.false_eq_true, Classical.not_not, decide_eq_true_eq, z_sq, Option.bind_some, z_lits, z_n_add, z_n_mul, z_lt, z_le, z_eq, z_ne1, z_1ne, z_lt1, z_1lt, z_ltT, z_ltF, z_leT, z_leF, z_eqF, z_b_0, z_b_1, ↓reduceIte, eq_self, not_true_eq_false, not_false_eq_true, and_true, true_and, and_false, false_and, Nat.add_zero, Nat.zero_add]
          rw [nr1, z_sq]
          simp (disch := omega) only [hob, or_true, true_or, or_false, false_or, z_b_T, z_b_F, Bool.false_eq_true, Classical.not_not, decide_eq_true_eq, z_sq, Option.bind_some, z_lits, z_n_add, z_n_mul, z_lt, z_le, z_eq, z_ne1, z_1ne, z_lt1, z_1lt, z_ltT, z_ltF, z_leT, z_leF, z_eqF, z_b_0, z_b_1, ↓reduceIte, eq_self, not_true_eq_false, not_false_eq_true, and_true, true_and, and_false, false_and, Nat.add_zero, Nat.zero_add]
          rw [f3, z_sq]
          simp (disch := omega) only [hob, or_true, true_or, or_false, false_or, z_b_T, z_b_F, Bool.false_eq_true, Classical.not_not, decide_eq_true_eq, z_sq, Option.bind_some, z_lits, z_n_add, z_n_mul, z_lt, z_le, z_eq, z_ne1, z_1ne, z_lt1, z_1lt, z_ltT, z_ltF, z_leT, z_leF, z_eqF, z_b_0, z_b_1, ↓reduceIte, eq_self, not_true_eq_false, not_false_eq_true, and_true, true_and, and_false, false_and, Nat.add_zero, Nat.zero_add]
          rw [f4, z_sq]
          simp (disch := omega) only [hob2, or_true, true_or, or_false, false_or, z_b_T, z_b_F, Bool.false_eq_true, Classical.not_not, decide_eq_true_eq, z_sq, Option.bind_some, z_lits, z_n_add, z_n_mul, z_lt, z_le, z_eq, z_ne1, z_1ne, z_lt1, z_1lt, z_ltT, z_ltF, z_leT, z_leF, z_eqF, z_b_0, z_b_1, ↓reduceIte, eq_self, not_true_eq_false, not_false_eq_true, and_true, true_and, and_false, false_and, Nat.add_zero, Nat.zero_add]
          rw [nr2, z_sq]
      · have e0 : (if h_on I J s t i < z_ln I t then 1 else 0) = 0 := if_neg hj
        rw [if_neg hj] at mt
        refine ⟨Y, ⟨q1, q2.eq fun u a hu hth ha => ?_⟩, ?_⟩
        · by_cases c1 : u = s
          · subst c1
            by_cases c2 : a = i
            · subst c2
              have e1 : h_pi I J u t (a + 1) u a = t + 1 := by unfold h_pi; rw [if_pos rfl, if_pos (by omega)]
              have e2 : h_pi I J u t a u a = t := by unfold h_pi; rw [if_pos rfl, if_neg (Nat.lt_irrefl _)]
              rw [e1, e2, h_kf, h_kl, if_neg hj, if_neg hj]
              exact ⟨rfl, rfl⟩
            · have e : h_pi I J u t (i + 1) u a = h_pi I J u t i u a := by
                unfold h_pi
                rw [if_pos rfl, if_pos rfl]
                by_cases c3 : a < i
                · rw [if_pos (by omega), if_pos c3]
                · rw [if_neg (by omega), if_neg c3]
              rw [e]; exact ⟨rfl, rfl⟩
          · have e : h_pi I J s t (i + 1) u a = h_pi I J s t i u a := by
              unfold h_pi
              rw [if_neg c1, if_neg c1]
              by_cases c2 : u = t
              · subst c2
                have ne : h_on I J u s a ≠ i := fun q => by
                  have := (h_on_s (I := I) (J := J) (B.qD hs) (B.qD ht) hi ha).mpr q
                  omega
                rw [if_pos rfl, if_pos rfl]
                by_cases c4 : h_on I J u s a < i
                · rw [if_pos (by omega), if_pos c4]
                · rw [if_neg (by omega), if_neg c4]
              · rw [if_neg c2, if_neg c2]
            rw [e]; exact ⟨rfl, rfl⟩
        · simp (disch := omega) only [f_Ho_join_L41, r1, sz, hi, hob, mt, z_sum_s, if_neg hj, or_true, true_or, or_false, false_or, z_b_T, z_b_F, Bool.false_eq_true, Classical.not_not, decide_eq_true_eq, z_sq, Option.bind_some, z_lits, z_n_add, z_n_mul, z_lt, z_le, z_eq, z_ne1, z_1ne, z_lt1, z_1lt, z_ltT, z_ltF, z_leT, z_leF, z_eqF, z_b_0, z_b_1, ↓reduceIte, eq_self, not_true_eq_false, not_false_eq_true, and_true, true_and, and_false, false_and, Nat.add_zero, Nat.zero_add])
    (by
      intro m Y ⟨q1, q2⟩
      have hdY : z_pd Y J p (z_Ds I J s) := z_pd_of hd (fun a ha => q1 a (by omega) (by omega))
      have sz : Y p 0 = z_n (z_ln I s) := hdY.1
      refine ⟨Y, ?_, q1, q2⟩
      simp (disch := omega) only [f_Ho_join_L41, r1, sz, Nat.lt_irrefl, or_true, true_or, or_false, false_or, z_b_T, z_b_F, Bool.false_eq_true, Classical.not_not, decide_eq_true_eq, z_sq, Option.bind_some, z_lits, z_n_add, z_n_mul, z_lt, z_le, z_eq, z_ne1, z_1ne, z_lt1, z_1lt, z_ltT, z_ltF, z_leT, z_leF, z_eqF, z_b_0, z_b_1, ↓reduceIte, eq_self, not_true_eq_false, not_false_eq_true, and_true, true_and, and_false, false_and, Nat.add_zero, Nat.zero_add]
      rfl)
    (x := X) ⟨fun _ _ _ => rfl, hk⟩
end
