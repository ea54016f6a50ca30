/-! WORLDS: what is drawn. -/
def w_nx (g : Nat) : Nat := (g * 1103515245 + 12345) % 2147483648
def w_dr (g m : Nat) : Nat := g / 65536 % m
theorem w_nx_lt (g : Nat) : w_nx g < 2147483648 := Nat.mod_lt _ (by decide)
/-- the draws' state and the years behind so many children -/
def w_st (nx : Nat → Nat) (dr : Nat → Nat → Nat) (g : Nat) : Nat → Nat × Nat
  | 0 => (g, 45)
  | i + 1 => (nx (nx (nx (w_st nx dr g i).1)), (w_st nx dr g i).2 - (dr (nx (nx (w_st nx dr g i).1)) 5 + 1))
def w_gl (nx : Nat → Nat) (dr : Nat → Nat → Nat) (g i : Nat) : Bool := decide (dr (nx (w_st nx dr g i).1) 2 = 1)
def w_ag (nx : Nat → Nat) (dr : Nat → Nat → Nat) (g i : Nat) : Nat := (w_st nx dr g (i + 1)).2
def w_al (nx : Nat → Nat) (dr : Nat → Nat → Nat) (I : z_MI) (t g i : Nat) : Bool := decide (dr (w_st nx dr g (i + 1)).1 5000 < u_at I t (w_ag nx dr g i))
theorem w_st_y {nx : Nat → Nat} {dr : Nat → Nat → Nat} (hdr : ∀ g m, 0 < m → dr g m < m) (g : Nat) : ∀ i, i ≤ 6 → 45 - 5 * i ≤ (w_st nx dr g i).2 ∧ (w_st nx dr g i).2 ≤ 45
  | 0, _ => ⟨by simp [w_st], by simp [w_st]⟩
  | i + 1, h => by
    obtain ⟨h1, h2⟩ := w_st_y (nx := nx) hdr g i (by omega)
    have := hdr (nx (nx (w_st nx dr g i).1)) 5 (by omega)
    rw [w_st]
    simp only
    omega
theorem w_st_lt {nx : Nat → Nat} {dr : Nat → Nat → Nat} (hnx : ∀ g, nx g < 2147483648) (g : Nat) (hg : g < 2147483648) : ∀ i, (w_st nx dr g i).1 < 2147483648
  | 0 => hg
  | i + 1 => hnx _
theorem w_ag_b {nx : Nat → Nat} {dr : Nat → Nat → Nat} (hdr : ∀ g m, 0 < m → dr g m < m) (g : Nat) {i : Nat} (h : i < 6) : 15 ≤ w_ag nx dr g i ∧ w_ag nx dr g i ≤ 45 := by
  have := w_st_y (nx := nx) hdr g (i + 1) (by omega)
  unfold w_ag; omega
theorem z_zmod' {x y : Nat} (hx : x ≤ 4000000000000000000) (hy : y ≤ 4000000000000000000) (h : 0 < y) : z_z x - z_z x / z_z y * z_z y = z_z (x % y : Nat) := by
  rw [z_z_div (by omega) (by omega) (by omega) (by omega), z_z_mul, z_z_sub]
  congr 1
  have h1 : (x : Int).tdiv (y : Int) = ((x / y : Nat) : Int) := by rw [Int.ofNat_tdiv]
  rw [h1]
  have h2 := Nat.mod_add_div x y
  have h3 : ((x / y : Nat) : Int) * (y : Int) = ((y * (x / y) : Nat) : Int) := by rw [Nat.mul_comm]; exact (Int.natCast_mul _ _).symm
  rw [h3]; omega
theorem w_next {g : Nat} (h : g < 2147483648) : z_z (g : Nat) * (1103515245 : Int64) + (12345 : Int64) - (z_z (g : Nat) * (1103515245 : Int64) + (12345 : Int64)) / (2147483648 : Int64) * (2147483648 : Int64) = z_z (w_nx g : Nat) := by
  have e1 : (1103515245 : Int64) = z_z ((1103515245 : Nat) : Int) := rfl
  have e2 : (12345 : Int64) = z_z ((12345 : Nat) : Int) := rfl
  have e3 : (2147483648 : Int64) = z_z ((2147483648 : Nat) : Int) := rfl
  have e4 : z_z (g : Nat) * z_z ((1103515245 : Nat) : Int) + z_z ((12345 : Nat) : Int) = z_z ((g * 1103515245 + 12345 : Nat) : Int) := by rw [z_z_mul, z_z_add, ← Int.natCast_mul, ← Int.natCast_add]
  unfold w_nx
  rw [e1, e2, e3, e4, z_zmod' (by omega) (by omega) (by omega)]
theorem w_draw {g m : Nat} (h : g < 2147483648) (h0 : 0 < m) (hm : m ≤ 1000000) : (z_z (g : Nat) / (65536 : Int64) - z_z (g : Nat) / (65536 : Int64) / (z_n m).toInt64 * (z_n m).toInt64).toInt32 = z_n (w_dr g m) ∧ ¬ (z_n m).toInt64 = 0 := by
  have e1 : (65536 : Int64) = z_z ((65536 : Nat) : Int) := rfl
  have e2 : z_z (g : Nat) / z_z ((65536 : Nat) : Int) = z_z ((g / 65536 : Nat) : Int) := by rw [z_z_div (by omega) (by omega) (by omega) (by omega), Int.ofNat_tdiv]
  have e0 : (0 : Int64) = z_z 0 := rfl
  unfold w_dr
  rw [z_cast hm, e1, e2, z_zmod' (by omega) (by omega) h0, z_zton, e0]
  refine ⟨rfl, ?_⟩
  rw [z_z_eq (by omega) (by omega) (by omega) (by omega)]; omega
section
variable {S : z_SH} {I : z_MI} {J : z_MJ} {P : z_MP} {K : Nat → Bool} {n : Nat × Nat}
theorem C_draw (hS : z_St S) {g m : Nat} (hg : J 36 2 = z_z (g : Nat)) (h : g < 2147483648) (h0 : 0 < m) (hm : m ≤ 1000000) : f_Wo_draw 36 (z_n m) (z_h S I J P n) = some (z_n (w_dr (w_nx g) m), z_h S I (z_uj J 36 2 (z_z (w_nx g : Nat))) P n) := by
  obtain ⟨d1, d2⟩ := w_draw (g := w_nx g) (m := m) (w_nx_lt g) h0 hm
  have pos : (0 : Int32) < z_n m := by
    show z_n 0 < z_n m
    rw [z_lt (by omega) (by omega)]; exact h0
  unfold f_Wo_draw
  rw [z_gl (s_36 hS) rfl, Option.bind_some, hg, w_next h, z_sfl (s_36 hS) (by decide) rfl, Option.bind_some, if_pos pos, z_gl (s_36 hS) rfl, Option.bind_some, z_uj_s, if_neg d2, d1]
theorem M_draws (hS : z_St S) {g m : Nat} (hg : J 83 52 = z_z (g : Nat)) (h : g < 2147483648) (h0 : 0 < m) (hm : m ≤ 1000000) : f_Mo_draws 83 (z_n m) (z_h S I J P n) = some (z_n (w_dr (w_nx g) m), z_h S I (z_uj J 83 52 (z_z (w_nx g : Nat))) P n) := by
  obtain ⟨d1, d2⟩ := w_draw (g := w_nx g) (m := m) (w_nx_lt g) h0 hm
  unfold f_Mo_draws
  rw [z_gl (s_83 hS) rfl, Option.bind_some, hg, w_next h, z_sfl (s_83 hS) (by decide) rfl, Option.bind_some, z_gl (s_83 hS) rfl, Option.bind_some, z_uj_s, if_neg d2, d1]
/-- the children drawn so far, in four rows of a memory (girls, ages, alive; the last one what is free or married) -/
def w_rows (nx : Nat → Nat) (dr : Nat → Nat → Nat) (I0 : z_MI) (t g N : Nat) (ag gl al : Nat → Int32) : Prop := ∀ j, j < N → ag j = z_n (w_ag nx dr g j) ∧ gl j = z_b (w_gl nx dr g j = true) ∧ al j = z_b (w_al nx dr I0 t g j = true)
theorem z_b_n {c : Prop} [Decidable c] : z_b c = z_n (if c then 1 else 0) := by unfold z_b; split <;> rfl
-- the class's children
set_option maxRecDepth 100000 in
set_option maxHeartbeats 4000000 in
theorem C_bear (B : z_B S I J P K n.1) {nx : Nat → Nat} {dr : Nat → Nat → Nat} (hnx : ∀ g, nx g < 2147483648) (hdr : ∀ g m, 0 < m → dr g m < m) (Dr : ∀ (I : z_MI) (J : z_MJ) (g m : Nat), J 36 2 = z_z (g : Nat) → g < 2147483648 → 0 < m → m ≤ 1000000 → f_Wo_draw 36 (z_n m) (z_h S I J P n) = some (z_n (dr (nx g) m), z_h S I (z_uj J 36 2 (z_z (nx g : Nat))) P n)) {t g : Nat} (ht : t < 4) (hg : J 36 2 = z_z (g : Nat)) (h31 : g < 2147483648) : ∃ I' J', f_Wo_bear 36 27 (z_n t) (z_h S I J P n) = some ((), z_h S I' J' P n) ∧ (∀ a, a < 36 ∨ 40 < a → I' a = I a ∧ J' a = J a) ∧ I' 36 0 = I 36 0 ∧ I' 36 1 = I 36 1 ∧
    I' 36 3 = z_n (dr (nx g) 6 + 1) ∧ J' 36 2 = z_z ((w_st nx dr (nx g) (dr (nx g) 6 + 1)).1 : Nat) ∧ w_rows nx dr I t (nx g) (dr (nx g) 6 + 1) (I' 37) (I' 38) (I' 39) ∧ ∀ j, j < dr (nx g) 6 + 1 → I' 40 j = z_n 0 := by
  have hS := B.qS
  have hP := B.qP
  have hn := B.qn
  have c6 : dr (nx g) 6 < 6 := hdr _ _ (by omega)
  have g1 := hnx g
  have d0 := Dr I J g 6 hg h31 (by omega) (by omega)
  generalize hc : dr (nx g) 6 + 1 = c at *
  have key := z_runI (fun m i (X : z_MI × z_MJ) => f_Wo_bear_L18 36 27 (z_n t) m (z_n (w_st nx dr (nx g) i).2) (z_n i) (z_h S X.1 X.2 P n)) c
    (fun i X => (∀ a, a < 36 ∨ 40 < a → X.1 a = I a ∧ X.2 a = J a) ∧ X.1 36 0 = I 36 0 ∧ X.1 36 1 = I 36 1 ∧ X.1 36 3 = z_n c ∧ X.2 36 2 = z_z ((w_st nx dr (nx g) i).1 : Nat) ∧ w_rows nx dr I t (nx g) i (X.1 37) (X.1 38) (X.1 39) ∧ ∀ j, j < i → X.1 40 j = z_n 0)
    (fun r => ∃ I' J', r = some ((), z_h S I' J' P n) ∧ (∀ a, a < 36 ∨ 40 < a → I' a = I a ∧ J' a = J a) ∧ I' 36 0 = I 36 0 ∧ I' 36 1 = I 36 1 ∧ I' 36 3 = z_n c ∧ J' 36 2 = z_z ((w_st nx dr (nx g) c).1 : Nat) ∧ w_rows nx dr I t (nx g) c (I' 37) (I' 38) (I' 39) ∧ ∀ j, j < c → I' 40 j = z_n 0) (by omega)
    (by
      intro m i ⟨I1, J1⟩ hi ⟨q1, q2, q3, q4, q5, q6, q7⟩
      simp only at q1 q2 q3 q4 q5 q6 q7 ⊢
      have hi6 : i < 6 := by omega
      have gi := w_st_lt (dr := dr) hnx (nx g) g1 i
      have x1 := hnx (w_st nx dr (nx g) i).1
      have x2 := hnx (nx (w_st nx dr (nx g) i).1)
      have x3 := hnx (nx (nx (w_st nx dr (nx g) i).1))
      obtain ⟨y1, y2⟩ := w_st_y (nx := nx) hdr (nx g) i (by omega)
      obtain ⟨a1, a2⟩ := w_ag_b (nx := nx) hdr (nx g) hi6
      have l2 : dr (nx (w_st nx dr (nx g) i).1) 2 < 2 := hdr _ _ (by omega)
      have l5 : dr (nx (nx (w_st nx dr (nx g) i).1)) 5 < 5 := hdr _ _ (by omega)
      have l50 : dr (nx (nx (nx (w_st nx dr (nx g) i).1))) 5000 < 5000 := hdr _ _ (by omega)
      have eag : (w_st nx dr (nx g) i).2 - (dr (nx (nx (w_st nx dr (nx g) i).1)) 5 + 1) = w_ag nx dr (nx g) i := rfl
      have est : (w_st nx dr (nx g) (i + 1)).2 = w_ag nx dr (nx g) i := rfl
      have egs : (w_st nx dr (nx g) (i + 1)).1 = nx (nx (nx (w_st nx dr (nx g) i).1)) := rfl
      -- the three draws, in whatever memory
      have D1 := fun I1 J1 h => Dr I1 J1 ((w_st nx dr (nx g) i).1) 2 h gi (by omega) (by omega)
      have D2 := fun I1 J1 h => Dr I1 J1 (nx (w_st nx dr (nx g) i).1) 5 h x1 (by omega) (by omega)
      have D3 := fun I1 J1 h => Dr I1 J1 (nx (nx (w_st nx dr (nx g) i).1)) 5000 h x2 (by omega) (by omega)
      have uu : ∀ J1 x y, z_uj (z_uj J1 36 2 x) 36 2 y = z_uj J1 36 2 y := by
        intro J1 x y
        funext b j
        unfold z_uj
        split <;> rfl
      have fin : ∀ (gv av : Int32), gv = z_b (w_gl nx dr (nx g) i = true) → av = z_b (w_al nx dr I t (nx g) i = true) → f_Wo_bear_L18 36 27 (z_n t) (m + 1) (z_n (w_st nx dr (nx g) i).2) (z_n i) (z_h S I1 J1 P n) = f_Wo_bear_L18 36 27 (z_n t) m (z_n (w_ag nx dr (nx g) i)) (z_n (i + 1)) (z_h S (z_up (z_up (z_up (z_up I1 38 i gv) 37 i (z_n (w_ag nx dr (nx g) i))) 39 i av) 40 i (z_n 0)) (z_uj J1 36 2 (z_z (nx (nx (nx (w_st nx dr (nx g) i).1)) : Nat))) P n) →
          ∃ x' : z_MI × z_MJ, ((∀ a, a < 36 ∨ 40 < a → x'.1 a = I a ∧ x'.2 a = J a) ∧ x'.1 36 0 = I 36 0 ∧ x'.1 36 1 = I 36 1 ∧ x'.1 36 3 = z_n c ∧ x'.2 36 2 = z_z ((w_st nx dr (nx g) (i + 1)).1 : Nat) ∧ w_rows nx dr I t (nx g) (i + 1) (x'.1 37) (x'.1 38) (x'.1 39) ∧ ∀ j, j < i + 1 → x'.1 40 j = z_n 0) ∧ f_Wo_bear_L18 36 27 (z_n t) (m + 1) (z_n (w_st nx dr (nx g) i).2) (z_n i) (z_h S I1 J1 P n) = f_Wo_bear_L18 36 27 (z_n t) m (z_n (w_st nx dr (nx g) (i + 1)).2) (z_n (i + 1)) (z_h S x'.1 x'.2 P n) := by
        intro gv av hgv hav he
        refine ⟨(z_up (z_up (z_up (z_up I1 38 i gv) 37 i (z_n (w_ag nx dr (nx g) i))) 39 i av) 40 i (z_n 0), z_uj J1 36 2 (z_z (nx (nx (nx (w_st nx dr (nx g) i).1)) : Nat))), ⟨fun a ha => ⟨?_, ?_⟩, ?_, ?_, ?_, ?_, ?_, ?_⟩, he⟩
        · simp only
          rw [z_up_r (by omega), z_up_r (by omega), z_up_r (by omega), z_up_r (by omega)]; exact (q1 a ha).1
        · simp only
          rw [z_uj_r (by omega)]; exact (q1 a ha).2
        · simp only
          rw [z_up_a (by omega), z_up_a (by omega), z_up_a (by omega), z_up_a (by omega)]; exact q2
        · simp only
          rw [z_up_a (by omega), z_up_a (by omega), z_up_a (by omega), z_up_a (by omega)]; exact q3
        · simp only
          rw [z_up_a (by omega), z_up_a (by omega), z_up_a (by omega), z_up_a (by omega)]; exact q4
        · show z_uj J1 36 2 (z_z (nx (nx (nx (w_st nx dr (nx g) i).1)) : Nat)) 36 2 = _
          exact z_uj_s _ _ _ _
        · intro j hj
          simp only
          by_cases hji : j = i
          · subst hji
            refine ⟨?_, ?_, ?_⟩
            · rw [z_up_a (by omega), z_up_a (by omega), z_up_s]
            · rw [z_up_a (by omega), z_up_a (by omega), z_up_a (by omega), z_up_s]; exact hgv
            · rw [z_up_a (by omega), z_up_s]; exact hav
          · obtain ⟨r1, r2, r3⟩ := q6 j (by omega)
            refine ⟨?_, ?_, ?_⟩
            · rw [z_up_i hji, z_up_i hji, z_up_i hji, z_up_i hji]; exact r1
            · rw [z_up_i hji, z_up_i hji, z_up_i hji, z_up_i hji]; exact r2
            · rw [z_up_i hji, z_up_i hji, z_up_i hji, z_up_i hji]; exact r3
        · intro j hj
          simp only
          by_cases hji : j = i
          · subst hji; exact z_up_s _ _ _ _
          · rw [z_up_i hji, z_up_i hji, z_up_i hji, z_up_i hji]; exact q7 j (by omega)
      have run : ∀ gn an, (gn = if dr (nx (w_st nx dr (nx g) i).1) 2 = 1 then 1 else 0) → (an = if dr (nx (nx (nx (w_st nx dr (nx g) i).1))) 5000 < u_at I t (w_ag nx dr (nx g) i) then 1 else 0) → f_Wo_bear_L18 36 27 (z_n t) (m + 1) (z_n (w_st nx dr (nx g) i).2) (z_n i) (z_h S I1 J1 P n) = f_Wo_bear_L18 36 27 (z_n t) m (z_n (w_ag nx dr (nx g) i)) (z_n (i + 1)) (z_h S (z_up (z_up (z_up (z_up I1 38 i (z_n gn)) 37 i (z_n (w_ag nx dr (nx g) i))) 39 i (z_n an)) 40 i (z_n 0)) (z_uj J1 36 2 (z_z (nx (nx (nx (w_st nx dr (nx g) i).1)) : Nat))) P n) := by
        intro gn an hgn han
        have r1 := D1 I1 J1 q5
        have r2 := D2 (z_up I1 38 i (z_n gn)) (z_uj J1 36 2 (z_z (nx (w_st nx dr (nx g) i).1 : Nat))) (z_uj_s _ _ _ _)
        have r3 := D3 (z_up (z_up I1 38 i (z_n gn)) 37 i (z_n (w_ag nx dr (nx g) i))) (z_uj J1 36 2 (z_z (nx (nx (w_st nx dr (nx g) i).1) : Nat))) (z_uj_s _ _ _ _)
        simp only [uu] at r2 r3
        have G : z_ag n.1 (z_x0 K) S I J P S (z_up (z_up I1 38 i (z_n gn)) 37 i (z_n (w_ag nx dr (nx g) i))) (z_uj J1 36 2 (z_z (nx (nx (nx (w_st nx dr (nx g) i).1)) : Nat))) P := by
          intro a ha
          refine ⟨⟨rfl, rfl⟩, fun hx => ?_⟩
          unfold z_x0 at hx
          simp only [Bool.or_eq_false_iff, Bool.and_eq_false_iff, decide_eq_false_iff_not] at hx
          have ha' : a < 36 ∨ 40 < a := by omega
          rw [z_up_r (by omega), z_up_r (by omega), z_uj_r (by omega)]
          exact q1 a ha'
        have B2 : z_B S (z_up (z_up I1 38 i (z_n gn)) 37 i (z_n (w_ag nx dr (nx g) i))) (z_uj J1 36 2 (z_z (nx (nx (nx (w_st nx dr (nx g) i).1)) : Nat))) P K n.1 := B.mono (z_keepx K) G (Nat.le_refl _)
        have r4 := C_fifths (n := n) B2 ht (a := w_ag nx dr (nx g) i) (by omega)
        rw [u_at_c (G.cg (K := K) (z_keepx K) B.2.2.1.2 hn)] at r4
        have la := u_at_le B ht (w_ag nx dr (nx g) i)
        have z45 : z_n (w_st nx dr (nx g) i).2 - z_n (dr (nx (nx (w_st nx dr (nx g) i).1)) 5 + 1) = z_n (w_ag nx dr (nx g) i) := by
          rw [z_n_sub (by omega), eag]
        have ob4 := fun I J => (C_lives (I := I) (J := J) (n := n) hS hP).2
        by_cases hgl : dr (nx (w_st nx dr (nx g) i).1) 2 = 1
        · rw [if_pos hgl] at hgn
          subst hgn
          by_cases hal : dr (nx (nx (nx (w_st nx dr (nx g) i).1))) 5000 < u_at I t (w_ag nx dr (nx g) i)
          · rw [if_pos hal] at han
            subst han
            simp (disch := omega) only [f_Wo_bear_L18, z_Wor hS hP, z_Wow hS, q4, r1, hgl, r2, z45, r3, ob4, r4, hal, or_true, true_or, or_false, false_or, z_b_T, z_b_F, Bool.false_eq_true, Classical.not_not, decide_eq_true_eq, z_sq, Option.bind_some, z_lits, z_n_add, z_n_mul, z_lt, z_le, z_eq, z_ne1, z_1ne, z_lt1, z_1lt, z_ltT, z_ltF, z_leT, z_leF, z_eqF, z_b_0, z_b_1, ↓reduceIte, eq_self, not_true_eq_false, not_false_eq_true, and_true, true_and, and_false, false_and, Nat.add_zero, Nat.zero_add]
          · rw [if_neg hal] at han
            subst han
            simp (disch := omega) only [f_Wo_bear_L18, z_Wor hS hP, z_Wow hS, q4, r1, hgl, r2, z45, r3, ob4, r4, hal, or_true, true_or, or_false, false_or, z_b_T, z_b_F, Bool.false_eq_true, Classical.not_not, decide_eq_true_eq, z_sq, Option.bind_some, z_lits, z_n_add, z_n_mul, z_lt, z_le, z_eq, z_ne1, z_1ne, z_lt1, z_1lt, z_ltT, z_ltF, z_leT, z_leF, z_eqF, z_b_0, z_b_1, ↓reduceIte, eq_self, not_true_eq_false, not_false_eq_true, and_true, true_and, and_false, false_and, Nat.add_zero, Nat.zero_add]
        · rw [if_neg hgl] at hgn
          subst hgn
          by_cases hal : dr (nx (nx (nx (w_st nx dr (nx g) i).1))) 5000 < u_at I t (w_ag nx dr (nx g) i)
          · rw [if_pos hal] at han
            subst han
            simp (disch := omega) only [f_Wo_bear_L18, z_Wor hS hP, z_Wow hS, q4, r1, hgl, r2, z45, r3, ob4, r4, hal, or_true, true_or, or_false, false_or, z_b_T, z_b_F, Bool.false_eq_true, Classical.not_not, decide_eq_true_eq, z_sq, Option.bind_some, z_lits, z_n_add, z_n_mul, z_lt, z_le, z_eq, z_ne1, z_1ne, z_lt1, z_1lt, z_ltT, z_ltF, z_leT, z_leF, z_eqF, z_b_0, z_b_1, ↓reduceIte, eq_self, not_true_eq_false, not_false_eq_true, and_true, true_and, and_false, false_and, Nat.add_zero, Nat.zero_add]
          · rw [if_neg hal] at han
            subst han
            simp (disch := omega) only [f_Wo_bear_L18, z_Wor hS hP, z_Wow hS, q4, r1, hgl, r2, z45, r3, ob4, r4, hal, or_true, true_or, or_false, false_or, z_b_T, z_b_F, Bool.false_eq_true, Classical.not_not, decide_eq_true_eq, z_sq, Option.bind_some, z_lits, z_n_add, z_n_mul, z_lt, z_le, z_eq, z_ne1, z_1ne, z_lt1, z_1lt, z_ltT, z_ltF, z_leT, z_leF, z_eqF, z_b_0, z_b_1, ↓reduceIte, eq_self, not_true_eq_false, not_false_eq_true, and_true, true_and, and_false, false_and, Nat.add_zero, Nat.zero_add]
      refine fin _ _ ?_ ?_ (run _ _ rfl rfl)
      · rw [z_b_n]; unfold w_gl; simp only [decide_eq_true_eq]
      · rw [z_b_n]; unfold w_al; simp only [decide_eq_true_eq, egs])
    (by
      intro m ⟨I1, J1⟩ ⟨q1, q2, q3, q4, q5, q6, q7⟩
      simp only at q1 q2 q3 q4 q5 q6 q7 ⊢
      refine ⟨I1, J1, ?_, q1, q2, q3, q4, q5, q6, q7⟩
      simp (disch := omega) only [f_Wo_bear_L18, z_Wor hS hP, q4, or_true, true_or, or_false, false_or, z_b_T, z_b_F, Bool.false_eq_true, Classical.not_not, decide_eq_true_eq, z_sq, Option.bind_some, z_lits, z_n_add, z_n_mul, z_lt, z_le, z_eq, z_ne1, z_1ne, z_lt1, z_1lt, z_ltT, z_ltF, z_leT, z_leF, z_eqF, z_b_0, z_b_1, ↓reduceIte, eq_self, not_true_eq_false, not_false_eq_true, and_true, true_and, and_false, false_and, Nat.add_zero, Nat.zero_add])
    (x := (z_up I 36 3 (z_n c), z_uj J 36 2 (z_z (nx g : Nat)))) (by
      refine ⟨fun a ha => ⟨?_, ?_⟩, ?_, ?_, ?_, ?_, ?_, ?_⟩
      · show z_up I 36 3 (z_n c) a = I a
        exact z_up_r (by omega)
      · show z_uj J 36 2 (z_z (nx g : Nat)) a = J a
        exact z_uj_r (by omega)
      · show z_up I 36 3 (z_n c) 36 0 = _
        exact z_up_i (by omega)
      · show z_up I 36 3 (z_n c) 36 1 = _
        exact z_up_i (by omega)
      · show z_up I 36 3 (z_n c) 36 3 = _
        exact z_up_s _ _ _ _
      · show z_uj J 36 2 (z_z (nx g : Nat)) 36 2 = _
        exact z_uj_s _ _ _ _
      · exact fun j hj => absurd hj (Nat.not_lt_zero _)
      · exact fun j hj => absurd hj (Nat.not_lt_zero _))
  obtain ⟨I', J', e1, e2⟩ := key
  refine ⟨I', J', ?_, e2⟩
  have e1' : f_Wo_bear_L18 36 27 (z_n t) q_FU (z_n 45) (z_n 0) (z_h S (z_up I 36 3 (z_n c)) (z_uj J 36 2 (z_z (nx g : Nat))) P n) = _ := e1
  simp (disch := omega) only [f_Wo_bear, z_Wor hS hP, z_Wow hS, d0, hc, e1', or_true, true_or, or_false, false_or, z_b_T, z_b_F, Bool.false_eq_true, Classical.not_not, decide_eq_true_eq, z_sq, Option.bind_some, z_lits, z_n_add, z_n_mul, z_lt, z_le, z_eq, z_ne1, z_1ne, z_lt1, z_1lt, z_ltT, z_ltF, z_leT, z_leF, z_eqF, z_b_0, z_b_1, ↓reduceIte, eq_self, not_true_eq_false, not_false_eq_true, and_true, true_and, and_false, false_and, Nat.add_zero, Nat.zero_add]
-- the reference's children
set_option maxRecDepth 100000 in
set_option maxHeartbeats 4000000 in
theorem M_kids (B : z_B S I J P K n.1) {S' : z_SH} {P' : z_MP} {n' : Nat × Nat} (hS' : z_St S') (hP' : z_Pt P') {nx : Nat → Nat} {dr : Nat → Nat → Nat} (hnx : ∀ g, nx g < 2147483648) (hdr : ∀ g m, 0 < m → dr g m < m) (Dr : ∀ (I : z_MI) (J : z_MJ) (g m : Nat), J 83 52 = z_z (g : Nat) → g < 2147483648 → 0 < m → m ≤ 1000000 → f_Mo_draws 83 (z_n m) (z_h S' I J P' n') = some (z_n (dr (nx g) m), z_h S' I (z_uj J 83 52 (z_z (nx g : Nat))) P' n')) {t g c : Nat} (ht : t < 4) (hc : c ≤ 6) {I0 : z_MI} {J0 : z_MJ} (cg0 : z_cg I J I0 J0) (hg : J0 83 52 = z_z (g : Nat)) (h31 : g < 2147483648) (v2 v4 v5 v6 : Int32) : ∃ I' J', f_Mo_runs_L42 83 v2 (z_n t) v4 v5 v6 (z_n c) q_FU 45 0 (z_h S' I0 J0 P' n') = some ((), z_h S' I' J' P' n') ∧ z_mf I0 J0 I' J' ∧ (∀ j, I' 83 j = I0 83 j) ∧
    J' 83 52 = z_z ((w_st nx dr g c).1 : Nat) ∧ w_rows nx dr I t g c (I' 120) (I' 121) (I' 122) := by
  have key := z_runI (fun m i (X : z_MI × z_MJ) => f_Mo_runs_L42 83 v2 (z_n t) v4 v5 v6 (z_n c) m (z_n (w_st nx dr g i).2) (z_n i) (z_h S' X.1 X.2 P' n')) c
    (fun i X => z_mf I0 J0 X.1 X.2 ∧ (∀ j, X.1 83 j = I0 83 j) ∧ X.2 83 52 = z_z ((w_st nx dr g i).1 : Nat) ∧ w_rows nx dr I t g i (X.1 120) (X.1 121) (X.1 122))
    (fun r => ∃ I' J', r = some ((), z_h S' I' J' P' n') ∧ z_mf I0 J0 I' J' ∧ (∀ j, I' 83 j = I0 83 j) ∧ J' 83 52 = z_z ((w_st nx dr g c).1 : Nat) ∧ w_rows nx dr I t g c (I' 120) (I' 121) (I' 122)) (by omega)
    (by
      intro m i ⟨I1, J1⟩ hi ⟨q1, q2, q5, q6⟩
      simp only at q1 q2 q5 q6 ⊢
      have hi6 : i < 6 := by omega
      have gi := w_st_lt (dr := dr) hnx g h31 i
      have x1 := hnx (w_st nx dr g i).1
      have x2 := hnx (nx (w_st nx dr g i).1)
      have x3 := hnx (nx (nx (w_st nx dr g i).1))
      obtain ⟨y1, y2⟩ := w_st_y (nx := nx) hdr g i (by omega)
      obtain ⟨a1, a2⟩ := w_ag_b (nx := nx) hdr g hi6
      have l2 : dr (nx (w_st nx dr g i).1) 2 < 2 := hdr _ _ (by omega)
      have l5 : dr (nx (nx (w_st nx dr g i).1)) 5 < 5 := hdr _ _ (by omega)
      have l50 : dr (nx (nx (nx (w_st nx dr g i).1))) 5000 < 5000 := hdr _ _ (by omega)
      have eag : (w_st nx dr g i).2 - (dr (nx (nx (w_st nx dr g i).1)) 5 + 1) = w_ag nx dr g i := rfl
      have egs : (w_st nx dr g (i + 1)).1 = nx (nx (nx (w_st nx dr g i).1)) := rfl
      have D1 := fun I1 J1 h => Dr I1 J1 ((w_st nx dr g i).1) 2 h gi (by omega) (by omega)
      have D2 := fun I1 J1 h => Dr I1 J1 (nx (w_st nx dr g i).1) 5 h x1 (by omega) (by omega)
      have D3 := fun I1 J1 h => Dr I1 J1 (nx (nx (w_st nx dr g i).1)) 5000 h x2 (by omega) (by omega)
      have uu : ∀ J1 x y, z_uj (z_uj J1 83 52 x) 83 52 y = z_uj J1 83 52 y := by
        intro J1 x y
        funext b j
        unfold z_uj
        split <;> rfl
      have fin : ∀ (gv av : Int32), gv = z_b (w_gl nx dr g i = true) → av = z_b (w_al nx dr I t g i = true) → f_Mo_runs_L42 83 v2 (z_n t) v4 v5 v6 (z_n c) (m + 1) (z_n (w_st nx dr g i).2) (z_n i) (z_h S' I1 J1 P' n') = f_Mo_runs_L42 83 v2 (z_n t) v4 v5 v6 (z_n c) m (z_n (w_ag nx dr g i)) (z_n (i + 1)) (z_h S' (z_up (z_up (z_up I1 121 i gv) 120 i (z_n (w_ag nx dr g i))) 122 i av) (z_uj J1 83 52 (z_z (nx (nx (nx (w_st nx dr g i).1)) : Nat))) P' n') →
          ∃ x' : z_MI × z_MJ, (z_mf I0 J0 x'.1 x'.2 ∧ (∀ j, x'.1 83 j = I0 83 j) ∧ x'.2 83 52 = z_z ((w_st nx dr g (i + 1)).1 : Nat) ∧ w_rows nx dr I t g (i + 1) (x'.1 120) (x'.1 121) (x'.1 122)) ∧ f_Mo_runs_L42 83 v2 (z_n t) v4 v5 v6 (z_n c) (m + 1) (z_n (w_st nx dr g i).2) (z_n i) (z_h S' I1 J1 P' n') = f_Mo_runs_L42 83 v2 (z_n t) v4 v5 v6 (z_n c) m (z_n (w_st nx dr g (i + 1)).2) (z_n (i + 1)) (z_h S' x'.1 x'.2 P' n') := by
        intro gv av hgv hav he
        refine ⟨(z_up (z_up (z_up I1 121 i gv) 120 i (z_n (w_ag nx dr g i))) 122 i av, z_uj J1 83 52 (z_z (nx (nx (nx (w_st nx dr g i).1)) : Nat))), ⟨?_, ?_, ?_, ?_⟩, he⟩
        · exact q1.trans ((((z_mf.up (a := 121) rfl).trans (z_mf.up (a := 120) rfl)).trans (z_mf.up (a := 122) rfl)).trans (z_mf.uj rfl))
        · intro j
          simp only
          rw [z_up_a (by omega), z_up_a (by omega), z_up_a (by omega)]; exact q2 j
        · show z_uj J1 83 52 (z_z (nx (nx (nx (w_st nx dr g i).1)) : Nat)) 83 52 = _
          exact z_uj_s _ _ _ _
        · intro j hj
          simp only
          by_cases hji : j = i
          · subst hji
            refine ⟨?_, ?_, ?_⟩
            · rw [z_up_a (by omega), z_up_s]
            · rw [z_up_a (by omega), z_up_a (by omega), z_up_s]; exact hgv
            · rw [z_up_s]; exact hav
          · obtain ⟨r1, r2, r3⟩ := q6 j (by omega)
            refine ⟨?_, ?_, ?_⟩
            · rw [z_up_i hji, z_up_i hji, z_up_i hji]; exact r1
            · rw [z_up_i hji, z_up_i hji, z_up_i hji]; exact r2
            · rw [z_up_i hji, z_up_i hji, z_up_i hji]; exact r3
      have run : ∀ gn an, (gn = if dr (nx (w_st nx dr g i).1) 2 = 1 then 1 else 0) → (an = if dr (nx (nx (nx (w_st nx dr g i).1))) 5000 < u_at I t (w_ag nx dr g i) then 1 else 0) → f_Mo_runs_L42 83 v2 (z_n t) v4 v5 v6 (z_n c) (m + 1) (z_n (w_st nx dr g i).2) (z_n i) (z_h S' I1 J1 P' n') = f_Mo_runs_L42 83 v2 (z_n t) v4 v5 v6 (z_n c) m (z_n (w_ag nx dr g i)) (z_n (i + 1)) (z_h S' (z_up (z_up (z_up I1 121 i (z_n gn)) 120 i (z_n (w_ag nx dr g i))) 122 i (z_n an)) (z_uj J1 83 52 (z_z (nx (nx (nx (w_st nx dr g i).1)) : Nat))) P' n') := by
        intro gn an hgn han
        have r1 := D1 I1 J1 q5
        have r2 := D2 (z_up I1 121 i (z_n gn)) (z_uj J1 83 52 (z_z (nx (w_st nx dr g i).1 : Nat))) (z_uj_s _ _ _ _)
        have r3 := D3 (z_up (z_up I1 121 i (z_n gn)) 120 i (z_n (w_ag nx dr g i))) (z_uj J1 83 52 (z_z (nx (nx (w_st nx dr g i).1) : Nat))) (z_uj_s _ _ _ _)
        simp only [uu] at r2 r3
        have G : z_cg I J (z_up (z_up I1 121 i (z_n gn)) 120 i (z_n (w_ag nx dr g i))) (z_uj J1 83 52 (z_z (nx (nx (nx (w_st nx dr g i).1)) : Nat))) :=
          cg0.trans (q1.trans (((z_mf.up (a := 121) rfl).trans (z_mf.up (a := 120) rfl)).trans (z_mf.uj rfl))).cg
        have r4 := M_atAge B (n' := n') hS' hP' G ht (a := w_ag nx dr g i) (by omega)
        have la := u_at_le B ht (w_ag nx dr g i)
        have z45 : z_n (w_st nx dr g i).2 - z_n (dr (nx (nx (w_st nx dr g i).1)) 5 + 1) = z_n (w_ag nx dr g i) := by
          rw [z_n_sub (by omega), eag]
        by_cases hgl : dr (nx (w_st nx dr g i).1) 2 = 1
        · rw [if_pos hgl] at hgn
          subst hgn
          by_cases hal : dr (nx (nx (nx (w_st nx dr g i).1))) 5000 < u_at I t (w_ag nx dr g i)
          · rw [if_pos hal] at han
            subst han
            simp (disch := omega) only [f_Mo_runs_L42, z_Mr hS' hP', z_Mw hS', r1, hgl, r2, z45, r3, r4, hal, or_true, true_or, or_false, false_or, z_b_T, z_b_F, Bool.false_eq_true, Classical.not_not, decide_eq_true_eq, z_sq, Option.bind_some, z_lits, z_n_add, z_n_mul, z_lt, z_le, z_eq, z_ne1, z_1ne, z_lt1, z_1lt, z_ltT, z_ltF, z_leT, z_leF, z_eqF, z_b_0, z_b_1, ↓reduceIte, eq_self, not_true_eq_false, not_false_eq_true, and_true, true_and, and_false, false_and, Nat.add_zero, Nat.zero_add]
          · rw [if_neg hal] at han
            subst han
            simp (disch := omega) only [f_Mo_runs_L42, z_Mr hS' hP', z_Mw hS', r1, hgl, r2, z45, r3, r4, hal, or_true, true_or, or_false, false_or, z_b_T, z_b_F, Bool.false_eq_true, Classical.not_not, decide_eq_true_eq, z_sq, Option.bind_some, z_lits, z_n_add, z_n_mul, z_lt, z_le, z_eq, z_ne1, z_1ne, z_lt1, z_1lt, z_ltT, z_ltF, z_leT, z_leF, z_eqF, z_b_0, z_b_1, ↓reduceIte, eq_self, not_true_eq_false, not_false_eq_true, and_true, true_and, and_false, false_and, Nat.add_zero, Nat.zero_add]
        · rw [if_neg hgl] at hgn
          subst hgn
          by_cases hal : dr (nx (nx (nx (w_st nx dr g i).1))) 5000 < u_at I t (w_ag nx dr g i)
          · rw [if_pos hal] at han
            subst han
            simp (disch := omega) only [f_Mo_runs_L42, z_Mr hS' hP', z_Mw hS', r1, hgl, r2, z45, r3, r4, hal, or_true, true_or, or_false, false_or, z_b_T, z_b_F, Bool.false_eq_true, Classical.not_not, decide_eq_true_eq, z_sq, Option.bind_some, z_lits, z_n_add, z_n_mul, z_lt, z_le, z_eq, z_ne1, z_1ne, z_lt1, z_1lt, z_ltT, z_ltF, z_leT, z_leF, z_eqF, z_b_0, z_b_1, ↓reduceIte, eq_self, not_true_eq_false, not_false_eq_true, and_true, true_and, and_false, false_and, Nat.add_zero, Nat.zero_add]
          · rw [if_neg hal] at han
            subst han
            simp (disch := omega) only [f_Mo_runs_L42, z_Mr hS' hP', z_Mw hS', r1, hgl, r2, z45, r3, r4, hal, or_true, true_or, or_false, false_or, z_b_T, z_b_F, Bool.false_eq_true, Classical.not_not, decide_eq_true_eq, z_sq, Option.bind_some, z_lits, z_n_add, z_n_mul, z_lt, z_le, z_eq, z_ne1, z_1ne, z_lt1, z_1lt, z_ltT, z_ltF, z_leT, z_leF, z_eqF, z_b_0, z_b_1, ↓reduceIte, eq_self, not_true_eq_false, not_false_eq_true, and_true, true_and, and_false, false_and, Nat.add_zero, Nat.zero_add]
      refine fin _ _ ?_ ?_ (run _ _ rfl rfl)
      · rw [z_b_n]; unfold w_gl; simp only [decide_eq_true_eq]
      · rw [z_b_n]; unfold w_al; simp only [decide_eq_true_eq, egs])
    (by
      intro m ⟨I1, J1⟩ ⟨q1, q2, q5, q6⟩
      simp only at q1 q2 q5 q6 ⊢
      refine ⟨I1, J1, ?_, q1, q2, q5, q6⟩
      simp (disch := omega) only [f_Mo_runs_L42, z_Mr hS' hP', or_true, true_or, or_false, false_or, z_b_T, z_b_F, Bool.false_eq_true, Classical.not_not, decide_eq_true_eq, z_sq, Option.bind_some, z_lits, z_n_add, z_n_mul, z_lt, z_le, z_eq, z_ne1, z_1ne, z_lt1, z_1lt, z_ltT, z_ltF, z_leT, z_leF, z_eqF, z_b_0, z_b_1, ↓reduceIte, eq_self, not_true_eq_false, not_false_eq_true, and_true, true_and, and_false, false_and, Nat.add_zero, Nat.zero_add])
    (x := (I0, J0)) ⟨z_mf.refl _ _, fun _ => rfl, hg, fun j hj => absurd hj (Nat.not_lt_zero _)⟩
  exact key
end
