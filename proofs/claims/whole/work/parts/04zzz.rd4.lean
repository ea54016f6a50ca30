/-! READ: the class reads a tag. -/
theorem k_bt : ∀ a, a < 256 → ∀ t, t < 8 → ((z_n a &&& z_n (k_tb.getD t 0)) = z_n 0 ↔ a / k_tb.getD t 0 % 2 = 0) ∧ (a / k_tb.getD t 0 % 2 = 0 → (z_n a ||| z_n (k_tb.getD t 0)) = z_n (a + k_tb.getD t 0)) := by decide +kernel
theorem k_bt2 : ∀ v, v < 16 → ∀ a b c d : Bool, ∀ t, t < 8 → (v + (if a = true then 0 else 16) + (if b = true then 0 else 32) + (if c = true then 0 else 64) + (if d = true then 0 else 128) < 256) ∧ ((v + (if a = true then 0 else 16) + (if b = true then 0 else 32) + (if c = true then 0 else 64) + (if d = true then 0 else 128)) / k_tb.getD t 0 % 2 = (if t = 0 then (if a = true then 0 else 1) else if t = 1 then (if b = true then 0 else 1) else if t = 2 then (if c = true then 0 else 1) else if t = 3 then (if d = true then 0 else 1) else v / 2 ^ (t - 4) % 2)) := by decide +kernel
theorem d_tg_b {D : z_D} {l v : Nat} (hv : v < 16) (h : D.2.1 4 l = z_n v) : d_tg D l < 256 ∧ ∀ t, t < 8 → (d_sn D l t = true ↔ ¬ d_tg D l / k_tb.getD t 0 % 2 = 0) := by
  have e := k_bt2 v hv (decide (D.2.2 1 l = 0)) (decide (D.2.2 2 l = 0)) (decide (D.2.1 2 l = -z_n 1)) (decide (D.2.1 3 l = -z_n 1))
  simp only [decide_eq_true_eq] at e
  have et : d_tg D l = v + (if D.2.2 1 l = 0 then 0 else 16) + (if D.2.2 2 l = 0 then 0 else 32) + (if D.2.1 2 l = -z_n 1 then 0 else 64) + (if D.2.1 3 l = -z_n 1 then 0 else 128) := by
    unfold d_tg
    rw [h, z_n_nat (by omega)]
  rw [← et] at e
  refine ⟨(e 0 (by decide)).1, fun t ht => ?_⟩
  rw [(e t ht).2]
  unfold d_sn
  have cs : t = 0 ∨ t = 1 ∨ t = 2 ∨ t = 3 ∨ (¬ t = 0 ∧ ¬ t = 1 ∧ ¬ t = 2 ∧ ¬ t = 3) := by omega
  rcases cs with rfl | rfl | rfl | rfl | ⟨c0, c1, c2, c3⟩
  · simp
  · simp
  · simp
  · simp
  · rw [if_neg c0, if_neg c1, if_neg c2, if_neg c3, if_neg c0, if_neg c1, if_neg c2, if_neg c3, h, z_n_nat (by omega), decide_eq_true_eq]
    omega
theorem d_tg_4 {D : z_D} {l v : Nat} (hv : v < 16) (h : D.2.1 4 l = z_n v) (w : Nat) (hw : w < 16) : d_tg (d_si D 4 l (z_n (v + w))) l = d_tg D l + w := by
  have e1 : (z_n v).toNatClampNeg = v := z_n_nat (by omega)
  have e2 : (z_n (v + w)).toNatClampNeg = v + w := z_n_nat (by omega)
  by_cases a : D.2.2 2 l = 0 <;> by_cases b : D.2.2 1 l = 0 <;> by_cases c : D.2.1 2 l = -z_n 1 <;> by_cases d : D.2.1 3 l = -z_n 1 <;> simp [d_tg, d_si, h, a, b, c, d, e1, e2] <;> omega
section
variable {S : z_SH} {I : z_MI} {J : z_MJ} {P : z_MP} {K : Nat → Bool} {n : Nat × Nat} {T : k_T} {r g p t : Nat} {D : z_D}
theorem k_pg.tt {t' : Nat} (h : k_pg I J g D t) : k_pg (z_up I (g + 6) D.1 (z_n t')) J g D t' := by
  obtain ⟨h1, ⟨h2, h3, h4, h5, h6, h7⟩, h8, h9⟩ := h
  refine ⟨k_pd h1 (fun l hl k' _ _ => ⟨z_up_i (by omega), rfl⟩) (z_up_a (by omega)), ⟨h2, ?_, ?_, z_up_s _ _ _ _, ?_, ?_⟩, fun l h1 h2 => ⟨?_, (h8 l h1 h2).2⟩, h9⟩
  · rw [z_up_a (by omega)]; exact h3
  · rw [z_up_a (by omega)]; exact h4
  · rw [z_up_a (by omega)]; exact h6
  · rw [z_up_a (by omega)]; exact h7
  · rw [z_up_i (show l ≠ D.1 by omega)]; exact (h8 l h1 h2).1
theorem k_pg.f {X : z_MI} {Z : z_MJ} (h : k_pg I J g D t) (hg : 131 ≤ g) (e : ∀ a, a ≠ 9 → X a = I a) (e2 : ∀ a, a ≠ 9 → Z a = J a) : k_pg X Z g D t := by
  obtain ⟨h1, ⟨h2, h3, h4, h5, h6, h7⟩, h8, h9⟩ := h
  refine ⟨k_pd h1 (fun l hl k' _ _ => ⟨by rw [e _ (by omega)], by rw [e2 _ (by omega)]⟩) (by rw [e _ (by omega)]), ⟨fun k hk => ?_, ?_, ?_, ?_, ?_, ?_⟩, fun l h1 h2 => ?_, h9⟩
  · rw [e2 _ (by omega)]; exact h2 k hk
  · rw [e _ (by omega)]; exact h3
  · rw [e _ (by omega)]; exact h4
  · rw [e _ (by omega)]; exact h5
  · rw [e _ (by omega)]; exact h6
  · rw [e _ (by omega)]; exact h7
  · rw [e _ (by omega), e2 _ (by omega), e2 _ (by omega)]; exact h8 l h1 h2
theorem k_pg.v {v : Nat} (h : k_pg I J g D t) : k_pg I J g (d_si D 4 D.1 (z_n v)) t := by
  obtain ⟨h1, ⟨h2, h3, h4, h5, h6, h7⟩, h8, h9⟩ := h
  have ne : ∀ k', k' < 4 → (d_si D 4 D.1 (z_n v)).2.1 k' D.1 = D.2.1 k' D.1 := fun k' hk' => d_si_ne _ _ _ _ (by omega)
  exact ⟨h1.deq (d_si_eq D 4 _), ⟨h2, h3.trans (ne 0 (by omega)).symm, h4.trans (ne 1 (by omega)).symm, h5, h6.trans (ne 2 (by omega)).symm, h7.trans (ne 3 (by omega)).symm⟩, h8, h9⟩
theorem k_fr_9 {X : z_MI} {Z : z_MJ} (e : ∀ a, a ≠ 9 → X a = I a) (e1 : X 9 1 = I 9 1) (e2 : ∀ a, a ≠ 9 → Z a = J a) : k_fr g I J X Z := ⟨fun a h1 _ => ⟨e a h1, e2 a h1⟩, e1⟩
set_option maxRecDepth 100000 in
set_option maxHeartbeats 4000000 in
theorem C_tagName (hS : z_St S) (hP : z_Pt P) (h : k_cl S P r g) (s : k_st I J T) (hp : p ≤ T.1) (h2 : I 9 2 = z_n p) {t : Nat} (ht : t < 4) (sn : ¬ d_sn D D.1 t = true) (pg : k_pg I J g D (d_tg D D.1 + k_tb.getD t 0)) (v4 : k_v4 D) :
    ∃ r' X Z, (q_sq (f_Ta_advance 9 (z_h S I J P n)) fun (_ : Unit) σ28 => (q_ob σ28 7 r).bind fun w30 => q_sq (f_Sr_isName r σ28) fun x32 σ31 => if x32 = z_n 0 then ((q_gr (q_gf σ31 7 r 0)).bind fun x34 => (q_ob σ31 1 x34).bind fun w35 => q_sq (f_Ta_fault x34 (z_n 1) σ31) fun x37 σ36 => some (x37, σ36)) else ((q_ob σ31 7 r).bind fun w38 => q_sq (f_Sr_takeName r (z_n D.1) (z_n t) σ31) fun x40 σ39 => some (x40, σ39))) = some (r', z_h S X Z P n) ∧ k_fr g I J X Z ∧ k_an T g D r' X Z (if k_nm T p = true then k_take T p t D else .inl (k_fl T 1 p)) := by
  obtain ⟨X1, Z1, a1, a2, a3, a4, a5⟩ := C_adv (J := J) (n := n) hS hP s.1 s.2.1 hp h2
  have fr1 : k_fr g I J X1 Z1 := k_fr_9 a2 a3 a4
  have s1 := fr1.st h.2.2.2.2.2 s
  have nm := C_isName (n := n) hS hP h s1 a5
  have o7 := z_ob (I := X1) (J := Z1) (P := P) (n := n) h.2.1
  have o9 := z_ob (I := X1) (J := Z1) (P := P) (n := n) (s_9 hS)
  have r0 : q_gr (q_gf (z_h S X1 Z1 P n) 7 r 0) = some 9 := z_gr h.2.1 rfl h.2.2.1
  rw [a1, z_sq, o7, Option.bind_some, nm, z_sq]
  by_cases q : k_nm T p = true
  · rw [if_pos q, z_b_t q, if_neg (by decide), o7, Option.bind_some]
    have kk : k_k T p = 1 := by
      have := q
      unfold k_nm at this
      exact (of_decide_eq_true this).1
    obtain ⟨r', X, Z, b1, b2, b3⟩ := C_takeName (n := n) hS hP h hp a5 kk ht sn (pg.f h.2.2.2.2.2 a2 a4) v4
    exact ⟨r', X, Z, by rw [b1, z_sq], fr1.trans b2, b3⟩
  · rw [if_neg q, z_b_f q, if_pos rfl, r0, Option.bind_some, o9, Option.bind_some, C_fault (T := T) (p := p) hS a5.2.2.1 1, z_sq]
    exact ⟨_, X1, Z1, rfl, fr1, rfl⟩
set_option maxRecDepth 100000 in
set_option maxHeartbeats 4000000 in
theorem C_parseTag (hS : z_St S) (hP : z_Pt P) (h : k_cl S P r g) (s : k_st I J T) (hp : p ≤ T.1) (k : k_C T p I J) {t : Nat} (ht : t < 8) (pg : k_pg I J g D (d_tg D D.1)) (v4 : k_v4 D) :
    ∃ r' X Z, f_Sr_parseTag r (z_n D.1) (z_n t) (z_h S I J P n) = some (r', z_h S X Z P n) ∧ k_fr g I J X Z ∧ k_an T g D r' X Z (k_tag T p t D) := by
  have h' := h
  obtain ⟨h0, h1, h2, h3, h4, hg⟩ := h
  have r0 : ∀ I J, q_gr (q_gf (z_h S I J P n) 7 r 0) = some 9 := fun _ _ => z_gr h1 rfl h2
  have r2 : ∀ I J, q_gr (q_gf (z_h S I J P n) 7 r 2) = some g := fun _ _ => z_gr h1 rfl h4
  have o9 := fun I J => z_ob (I := I) (J := J) (P := P) (n := n) (s_9 hS)
  have rp := z_ps_r h0
  have ft := C_fault (I := I) (J := J) (P := P) (n := n) hS k.2.2.1
  have l12 := pg.2.2.2
  obtain ⟨v, hv, ev⟩ := v4
  obtain ⟨lt, bt⟩ := d_tg_b hv ev
  have b3 := bt 3 (by omega)
  have bt := bt t ht
  have et : I 1 t = z_n (k_tb.getD t 0) := s.2.2.2 t ht
  have rb : q_gi (q_ga (z_h S I J P n) 20 1 (z_n t)) = some (z_n (k_tb.getD t 0)) := by rw [z_gia (s_1 hS) (by omega) (z_rpl ht), et]
  have e6 : I (g + 6) D.1 = z_n (d_tg D D.1) := pg.2.1.2.2.2.1
  have e4 : I (g + 4) D.1 = D.2.1 0 D.1 := pg.2.1.2.1
  obtain ⟨c1, c2⟩ := k_bt _ lt t ht
  obtain ⟨c3, -⟩ := k_bt _ lt 3 (by omega)
  have w := fun I J v => z_sai (I := I) (J := J) (P := P) (n := n) (v := v) (h0.2.2.2.2.1 6 (by omega) (by omega)) (by omega) (show D.1 < 2147483648 by omega) (z_rpl l12)
  unfold k_tag
  by_cases q : d_sn D D.1 t = true
  · rw [if_pos q]
    have c1 := fun e => bt.mp q (c1.mp e)
    refine ⟨_, I, J, ?_, ⟨fun _ _ _ => ⟨rfl, rfl⟩, rfl⟩, rfl⟩
    have ft := ft 3
    generalize k_fl T 3 p = F at *
    unfold f_Sr_parseTag
    rw [r2, Option.bind_some, rp.2.2.2.2.2.2.2.2.1, Option.bind_some, rp.2.2.2.2.2.2.2.2.2.2.2.2.2.2.2.2.2.2.2.1 _ _ _ _ l12, Option.bind_some, rb, Option.bind_some, e6, show (0 : Int32) = z_n 0 from rfl, if_neg c1]
    simp (disch := omega) only [r0, o9, ft, or_true, true_or, or_false, false_or, z_b_T, z_b_F, Bool.false_eq_true, Classical.not_not, decide_eq_true_eq, z_sq, Option.bind_some, z_lits, z_n_add, z_n_mul, z_lt, z_le, z_eq, z_ne1, z_1ne, z_lt1, z_1lt, z_ltT, z_ltF, z_leT, z_leF, z_eqF, z_b_0, z_b_1, ↓reduceIte, eq_self, not_true_eq_false, not_false_eq_true, and_true, true_and, and_false, false_and, Nat.add_zero, Nat.zero_add]
  · rw [if_neg q]
    have m0 : d_tg D D.1 / k_tb.getD t 0 % 2 = 0 := Classical.not_not.mp (fun e => q (bt.mpr e))
    have c1 := c1.mpr m0
    have c2 := c2 m0
    have pg' : k_pg (z_up I (g + 6) D.1 (z_n (d_tg D D.1 + k_tb.getD t 0))) J g D (d_tg D D.1 + k_tb.getD t 0) := pg.tt
    have fr' : k_fr g I J (z_up I (g + 6) D.1 (z_n (d_tg D D.1 + k_tb.getD t 0))) J := k_fr_i (by omega) hg _
    have s' := fr'.st hg s
    have fin : ∀ c, ∃ r' X Z, some (z_n (k_fl T c p), z_h S I J P n) = some (r', z_h S X Z P n) ∧ k_fr g I J X Z ∧ k_an T g D r' X Z (.inl (k_fl T c p)) := fun c => ⟨_, I, J, rfl, ⟨fun _ _ _ => ⟨rfl, rfl⟩, rfl⟩, rfl⟩
    have f92 : z_up I (g + 6) D.1 (z_n (d_tg D D.1 + k_tb.getD t 0)) 9 2 = z_n (k_e T p) := by rw [z_up_a (by omega)]; exact k.1
    have go : f_Sr_parseTag r (z_n D.1) (z_n t) (z_h S I J P n) = (if (D.2.1 0 D.1 = z_n 0 ∧ (t = 2 ∨ t = 3)) ∨ (t = 4 ∧ ¬ d_sn D D.1 3 = true) then some (z_n (k_fl T 6 p), z_h S I J P n) else if 3 < t then some (z_n 0, z_h S (z_up I (g + 6) D.1 (z_n (d_tg D D.1 + k_tb.getD t 0))) J P n) else (q_sq (f_Ta_advance 9 (z_h S (z_up I (g + 6) D.1 (z_n (d_tg D D.1 + k_tb.getD t 0))) J P n)) fun (_ : Unit) σ28 => (q_ob σ28 7 r).bind fun w30 => q_sq (f_Sr_isName r σ28) fun x32 σ31 => if x32 = z_n 0 then ((q_gr (q_gf σ31 7 r 0)).bind fun x34 => (q_ob σ31 1 x34).bind fun w35 => q_sq (f_Ta_fault x34 (z_n 1) σ31) fun x37 σ36 => some (x37, σ36)) else ((q_ob σ31 7 r).bind fun w38 => q_sq (f_Sr_takeName r (z_n D.1) (z_n t) σ31) fun x40 σ39 => some (x40, σ39)))) := by
      have ft := ft 6
      have e128 : (128 : Int32) = z_n (k_tb.getD 3 0) := rfl
      have c3' : ((z_n (d_tg D D.1) &&& z_n 128) = z_n 0) = ¬ d_sn D D.1 3 = true := by
        rw [show (128 : Nat) = k_tb.getD 3 0 from rfl, b3, Classical.not_not]
        exact propext c3
      generalize k_fl T 6 p = F at *
      unfold f_Sr_parseTag
      rw [r2, Option.bind_some, rp.2.2.2.2.2.2.2.2.1, Option.bind_some, rp.2.2.2.2.2.2.2.2.2.2.2.2.2.2.2.2.2.2.2.1 _ _ _ _ l12, Option.bind_some, rb, Option.bind_some, e6, show (0 : Int32) = z_n 0 from rfl, if_pos c1]
      generalize hk : k_tb.getD t 0 = bit at *
      clear hk bt b3 pg' fr' s' fin f92 et m0
      have cs : t = 0 ∨ t = 1 ∨ t = 2 ∨ t = 3 ∨ t = 4 ∨ t = 5 ∨ t = 6 ∨ t = 7 := by omega
      by_cases sx : D.2.1 0 D.1 = z_n 0
      · by_cases s3 : d_sn D D.1 3 = true
        · rcases cs with rfl | rfl | rfl | rfl | rfl | rfl | rfl | rfl <;> simp (disch := omega) only [r0, r2, o9, rp, l12, rb, e6, e4, sx, s3, c2, c3', w, ft, or_true, true_or, or_false, false_or, z_b_T, z_b_F, Bool.false_eq_true, Classical.not_not, decide_eq_true_eq, z_sq, Option.bind_some, z_lits, z_n_add, z_n_mul, z_lt, z_le, z_eq, z_ne1, z_1ne, z_lt1, z_1lt, z_ltT, z_ltF, z_leT, z_leF, z_eqF, z_b_0, z_b_1, ↓reduceIte, eq_self, not_true_eq_false, not_false_eq_true, and_true, true_and, and_false, false_and, Nat.add_zero, Nat.zero_add]
        · rcases cs with rfl | rfl | rfl | rfl | rfl | rfl | rfl | rfl <;> simp (disch := omega) only [r0, r2, o9, rp, l12, rb, e6, e4, sx, s3, c2, c3', w, ft, or_true, true_or, or_false, false_or, z_b_T, z_b_F, Bool.false_eq_true, Classical.not_not, decide_eq_true_eq, z_sq, Option.bind_some, z_lits, z_n_add, z_n_mul, z_lt, z_le, z_eq, z_ne1, z_1ne, z_lt1, z_1lt, z_ltT, z_ltF, z_leT, z_leF, z_eqF, z_b_0, z_b_1, ↓reduceIte, eq_self, not_true_eq_false, not_false_eq_true, and_true, true_and, and_false, false_and, Nat.add_zero, Nat.zero_add]
      · by_cases s3 : d_sn D D.1 3 = true
        · rcases cs with rfl | rfl | rfl | rfl | rfl | rfl | rfl | rfl <;> simp (disch := omega) only [r0, r2, o9, rp, l12, rb, e6, e4, sx, s3, c2, c3', w, ft, or_true, true_or, or_false, false_or, z_b_T, z_b_F, Bool.false_eq_true, Classical.not_not, decide_eq_true_eq, z_sq, Option.bind_some, z_lits, z_n_add, z_n_mul, z_lt, z_le, z_eq, z_ne1, z_1ne, z_lt1, z_1lt, z_ltT, z_ltF, z_leT, z_leF, z_eqF, z_b_0, z_b_1, ↓reduceIte, eq_self, not_true_eq_false, not_false_eq_true, and_true, true_and, and_false, false_and, Nat.add_zero, Nat.zero_add]
        · rcases cs with rfl | rfl | rfl | rfl | rfl | rfl | rfl | rfl <;> simp (disch := omega) only [r0, r2, o9, rp, l12, rb, e6, e4, sx, s3, c2, c3', w, ft, or_true, true_or, or_false, false_or, z_b_T, z_b_F, Bool.false_eq_true, Classical.not_not, decide_eq_true_eq, z_sq, Option.bind_some, z_lits, z_n_add, z_n_mul, z_lt, z_le, z_eq, z_ne1, z_1ne, z_lt1, z_1lt, z_ltT, z_ltF, z_leT, z_leF, z_eqF, z_b_0, z_b_1, ↓reduceIte, eq_self, not_true_eq_false, not_false_eq_true, and_true, true_and, and_false, false_and, Nat.add_zero, Nat.zero_add]
    rw [go]
    by_cases q2 : (D.2.1 0 D.1 = z_n 0 ∧ (t = 2 ∨ t = 3)) ∨ (t = 4 ∧ ¬ d_sn D D.1 3 = true)
    · rw [if_pos q2, if_pos q2]
      exact fin 6
    · rw [if_neg q2, if_neg q2]
      by_cases q3 : 3 < t
      · rw [if_pos q3, if_pos q3]
        have ev' : (D.2.1 4 D.1).toNatClampNeg = v := by rw [ev]; exact z_n_nat (by omega)
        have nb : v / 2 ^ (t - 4) % 2 = 0 := by
          unfold d_sn at q
          rw [if_neg (by omega), if_neg (by omega), if_neg (by omega), if_neg (by omega), ev', decide_eq_true_eq] at q
          omega
        obtain ⟨w1, w2, w3⟩ : v + 2 ^ (t - 4) < 16 ∧ k_tb.getD t 0 = 2 ^ (t - 4) ∧ 2 ^ (t - 4) < 16 := by
          have cs : t = 4 ∨ t = 5 ∨ t = 6 ∨ t = 7 := by omega
          rcases cs with rfl | rfl | rfl | rfl
          · refine ⟨?_, rfl, by decide⟩
            change v / 1 % 2 = 0 at nb; show v + 1 < 16; omega
          · refine ⟨?_, rfl, by decide⟩
            change v / 2 % 2 = 0 at nb; show v + 2 < 16; omega
          · refine ⟨?_, rfl, by decide⟩
            change v / 4 % 2 = 0 at nb; show v + 4 < 16; omega
          · refine ⟨?_, rfl, by decide⟩
            change v / 8 % 2 = 0 at nb; show v + 8 < 16; omega
        rw [ev']
        refine ⟨_, _, _, rfl, fr', rfl, rfl, ?_, ⟨_, w1, d_si_at _ _ _ _⟩, f92⟩
        rw [d_tg_4 hv ev _ w3, ← w2]
        exact pg'.v
      · rw [if_neg q3, if_neg q3]
        obtain ⟨r', X, Z, b1, b2, b3⟩ := C_tagName (n := n) hS hP h' s' (k_e_le hp).2 f92 (show t < 4 by omega) q pg' ⟨v, hv, ev⟩
        exact ⟨r', X, Z, b1, fr'.trans b2, b3⟩
end
