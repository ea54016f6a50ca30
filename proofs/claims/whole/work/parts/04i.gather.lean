/-! The class's sums over SHEETS. -/
section
variable {S S' : z_SH} {I I' : z_MI} {J J' : z_MJ} {P P' : z_MP} {K X : Nat → Bool} {n n' : Nat}
theorem z_ag.st (g : z_ag n X S I J P S' I' J' P') (hk : z_keep X K) (hK : ∀ a, K a = true → (70 < a ∧ a < 83) ∨ 131 ≤ a) (hn : 131 ≤ n) {a : Nat} (ha : a < 131) (h : a < 22 ∨ (26 < a ∧ a < 35) ∨ (42 < a ∧ a ≤ 70) ∨ 83 ≤ a) : I' a = I a ∧ J' a = J a := by
  refine (g a (by omega)).2 ?_
  cases e : X a with
  | false => rfl
  | true =>
    rcases hk _ e with q | q | q
    · have := hK a q; omega
    · omega
    · omega
theorem z_cra_lt {a : Nat} (h : z_cra a = true) : 83 ≤ a ∧ a < 131 := by
  unfold z_cra at h
  simp only [Bool.or_eq_true, Bool.and_eq_true, decide_eq_true_eq, beq_iff_eq] at h
  omega
theorem z_ag.cg (g : z_ag n X S I J P S' I' J' P') (hk : z_keep X K) (hK : ∀ a, K a = true → (70 < a ∧ a < 83) ∨ 131 ≤ a) (hn : 131 ≤ n) : z_cg I J I' J' := by
  refine ⟨fun a ha => ?_, ?_, ?_, fun a ha => ?_⟩
  · have := z_cra_lt ha
    exact ((g.st hk hK hn (by omega) (by omega)).1).symm
  · rw [(g.st hk hK hn (show 83 < 131 by omega) (by omega)).1]
  · rw [(g.st hk hK hn (show 83 < 131 by omega) (by omega)).1]
  · have := z_cra_lt ha
    exact ((g.st hk hK hn (by omega) (by omega)).2).symm
theorem z_Ds_c (h : z_cg I J I' J') (s : Nat) : z_Ds I' J' s = z_Ds I J s := by
  unfold z_Ds
  rw [z_ln_c h]
  refine Prod.ext rfl (Prod.ext ?_ ?_)
  · funext k l
    show (if k < 5 then I' (91 + k) (12 * s + l) else z_n 0) = if k < 5 then I (91 + k) (12 * s + l) else z_n 0
    by_cases hk : k < 5
    · rw [if_pos hk, if_pos hk, h.i _ (by unfold z_cra; simp only [Bool.or_eq_true, Bool.and_eq_true, decide_eq_true_eq, beq_iff_eq]; omega)]
    · rw [if_neg hk, if_neg hk]
  · funext k l
    show (if k < 3 then J' (96 + k) (12 * s + l) else 0) = if k < 3 then J (96 + k) (12 * s + l) else 0
    by_cases hk : k < 3
    · rw [if_pos hk, if_pos hk, h.j _ (by unfold z_cra; simp only [Bool.or_eq_true, Bool.and_eq_true, decide_eq_true_eq, beq_iff_eq]; omega)]
    · rw [if_neg hk, if_neg hk]
theorem z_iM.mono (h : z_cg I J I' J') (m : z_iM I J) : z_iM I' J' := by
  obtain ⟨m1, m2, m3, m4, m5, m6, m7⟩ := m
  refine ⟨z_lL_c h m1, z_lV_c h m2, fun s hs => ?_, fun s hs => ?_, fun v hv => ?_, fun i hi => ?_, ?_⟩
  · rw [z_Ds_c h]; exact m3 s hs
  · rw [h.i _ rfl, h.i _ rfl, h.i _ rfl, h.i _ rfl]; exact m4 s hs
  · rw [h.i _ rfl]; exact m5 v hv
  · rw [h.i _ rfl]; exact m6 i hi
  · obtain ⟨g, h1, h2, h3⟩ := m7
    exact ⟨g, h.2.2.1.symm.trans h1, h2, fun i hi => by rw [h.i _ rfl]; exact h3 i hi⟩
theorem z_iC.mono (g : z_ag n X S I J P S' I' J' P') (hk : z_keep X K) (hK : ∀ a, K a = true → (70 < a ∧ a < 83) ∨ 131 ≤ a) (hn : 131 ≤ n) (c : z_iC I) : z_iC I' := by
  have e : ∀ a, a < 131 → (a < 22 ∨ (26 < a ∧ a < 35) ∨ (42 < a ∧ a ≤ 70) ∨ 83 ≤ a) → I' a = I a := fun a h1 h2 => (g.st hk hK hn h1 h2).1
  obtain ⟨c1, c2, c3, c4, c5⟩ := c
  refine ⟨fun s hs => ?_, fun v hv => ?_, fun t k ht hk => ?_, fun i hi => ?_, ?_⟩
  · rw [e 14 (by omega) (by omega), e 15 (by omega) (by omega), e 16 (by omega) (by omega), e 17 (by omega) (by omega), e 85 (by omega) (by omega), e 87 (by omega) (by omega), e 88 (by omega) (by omega), e 89 (by omega) (by omega)]; exact c1 s hs
  · rw [e 19 (by omega) (by omega), e 84 (by omega) (by omega)]; exact c2 v hv
  · rw [e (29 + t) (by omega) (by omega), e 101 (by omega) (by omega)]; exact c3 t k ht hk
  · rw [e 33 (by omega) (by omega), e 103 (by omega) (by omega)]; exact c4 i hi
  · rw [e 27 (by omega) (by omega), e 83 (by omega) (by omega)]; exact c5
theorem z_B.mono (B : z_B S I J P K n) (hk : z_keep X K) (g : z_ag n X S I J P S' I' J' P') (hn : n ≤ n') : z_B S' I' J' P' K n' := by
  obtain ⟨b1, b2, ⟨b3, b4⟩, b5, b6, b7⟩ := B
  have c := g.cg hk b4 b3
  have b8 : ∀ s, s < 24 → P' 18 s = P 18 s := fun s _ => by rw [(g 18 (by omega)).1.2]
  refine ⟨b1.mono g b3, b2.mono g b3, ⟨by omega, b4⟩, z_iM.mono c b5, z_iC.mono g hk b4 b3 b6, fun s hs => ?_⟩
  rw [z_th_c c, z_Ds_c c, b8 s hs]
  rcases b7 s hs with h | ⟨h1, p, h2, h3⟩
  · exact Or.inl h
  · exact Or.inr ⟨h1, p, h2, h3.mono hk g hn⟩
theorem z_keep0 {K : Nat → Bool} : z_keep z_nil K := fun a h => by cases h
theorem z_ty.mono {t : Nat} {c : Nat → Nat → Nat} (h : z_ty S I P t c) (e1 : S' t = S t ∧ P' t = P t) (e2 : S' (t + 1) = S (t + 1) ∧ I' (t + 1) = I (t + 1)) : z_ty S' I' P' t c :=
  ⟨e1.1.trans h.1, by rw [e1.2]; exact h.2.1, e2.1.trans h.2.2.1, fun q k hq hk => by rw [e2.2]; exact h.2.2.2 q k hq hk⟩
end
section
variable {S : z_SH} {I : z_MI} {J : z_MJ} {P : z_MP} {K : Nat → Bool} {n : Nat × Nat}
/-- a new Tally -/
theorem C_tally0 {t : Nat} (ht : t = n.1) (h8 : 8 ≤ n.1) : ∃ S' I' J' P', f_Ty_init t (q_mk (z_h S I J P n) 9 [.null]) = some ((), z_h S' I' J' P' (n.1 + 2, n.2 + 16)) ∧ z_ag n.1 z_nil S I J P S' I' J' P' ∧ z_ty S' I' P' n.1 (fun _ _ => 0) := by
  subst ht
  have e0 := z_mk' (S := S) (I := I) (J := J) (P := P) (n := n) (t := 9) (vs := [Value.null]) [2] (f := fun _ => z_n 0) (g := fun _ => 0) (p := fun _ => none) rfl (by
    intro i k hk
    match i, hk with
    | 0, hk => cases hk; rfl
    | i + 1, hk => simp at hk)
  unfold f_Ty_init q_ma
  rw [e0, z_mki]
  show ∃ S' I' J' P', Option.bind (q_sf _ 9 n.1 0 (.ref (n.1 + 1))) _ = _ ∧ _
  rw [z_sfr (ks := [2]) (i := 0) (by rw [z_us_a (by omega), z_us_s]) h8 rfl, Option.bind_some]
  refine ⟨_, _, _, _, rfl, fun a ha => ⟨⟨?_, ?_⟩, fun _ => ⟨?_, ?_⟩⟩, ?_, ?_, ?_, ?_⟩
  · rw [z_us_a (by omega), z_us_a (by omega)]
  · rw [z_pu_r (by omega), z_rp_a (by omega), z_rp_a (by omega)]
  · rw [z_ri_a (by omega), z_ri_a (by omega)]
  · rw [z_rj_a (by omega), z_rj_a (by omega)]
  · rw [z_us_a (by omega), z_us_s]
  · rw [z_pu_s]
  · rw [z_us_s]
  · intro q k _ _
    rw [z_ri_s]
theorem z_ty.r {t : Nat} {c : Nat → Nat → Nat} (h : z_ty S I P t c) : (∀ I J n, q_ob (z_h S I J P n) 9 t = some (z_vs I J P t [2])) ∧ (∀ I J n, q_gr (q_gf (z_h S I J P n) 9 t 0) = some (t + 1)) ∧ (∀ I J n, q_len' (z_h S I J P n) (t + 1) = some (z_n 15)) ∧ ∀ I J n i, i < 15 → q_gi (q_ga (z_h S I J P n) 20 (t + 1) (z_n i)) = some (I (t + 1) i) :=
  ⟨fun _ _ _ => z_ob h.1, fun _ _ _ => z_gr h.1 rfl h.2.1, fun _ _ _ => z_len h.2.2.1 (by decide) (by rw [List.length_replicate]), fun _ _ _ i hi => z_gia h.2.2.1 (by omega) (z_rpl hi)⟩
set_option maxRecDepth 100000 in
set_option maxHeartbeats 4000000 in
theorem C_add {t o : Nat} {c d : Nat → Nat → Nat} (h : z_ty S I P t c) (k : z_ty S I P o d) (h8 : 8 ≤ t) (hne : ¬ o = t) : ∃ I', f_Ty_add t o (z_h S I J P n) = some ((), z_h S I' J P n) ∧ (∀ a, a ≠ t + 1 → I' a = I a) ∧ z_ty S I' P t (fun q i => c q i + d q i) := by
  have r1 := h.r
  have r2 := k.r
  have w : ∀ I J n i v, i < 15 → q_sa (z_h S I J P n) 20 (t + 1) (z_n i) (.int v) = some (z_h S (z_up I (t + 1) i v) J P n) := fun _ _ _ _ _ hi => z_sai h.2.2.1 (by omega) (by omega) (z_rpl hi)
  have e := z_run (fun m i => f_Ty_add_L2 t o m (z_n i) (z_h S (z_ri I (t + 1) (z_it (fun j => I (t + 1) j + I (o + 1) j) (I (t + 1)) i)) J P n)) 15 (r := some ((), z_h S (z_ri I (t + 1) (z_it (fun j => I (t + 1) j + I (o + 1) j) (I (t + 1)) 15)) J P n)) (by omega)
    (by
      intro m i hi
      have hne2 : o + 1 ≠ t + 1 := by omega
      have u := z_up_it I (t + 1) i (fun j => I (t + 1) j + I (o + 1) j) (I (t + 1))
      simp (disch := omega) only [f_Ty_add_L2, r1, r2, w, z_ri_s, z_ri_a hne2, z_it_n, u, or_true, true_or, or_false, false_or, z_b_T, z_b_F, Bool.false_eq_true, Classical.not_not, decide_eq_true_eq, z_sq, Option.bind_some, z_lits, z_n_add, z_n_mul, z_lt, z_le, z_eq, z_ne1, z_1ne, z_lt1, z_1lt, z_ltT, z_ltF, z_leT, z_leF, z_eqF, z_b_0, z_b_1, ↓reduceIte, eq_self, not_true_eq_false, not_false_eq_true, and_true, true_and, and_false, false_and, Nat.add_zero, Nat.zero_add])
    (by
      intro m
      simp (disch := omega) only [f_Ty_add_L2, r1, or_true, true_or, or_false, false_or, z_b_T, z_b_F, Bool.false_eq_true, Classical.not_not, decide_eq_true_eq, z_sq, Option.bind_some, z_lits, z_n_add, z_n_mul, z_lt, z_le, z_eq, z_ne1, z_1ne, z_lt1, z_1lt, z_ltT, z_ltF, z_leT, z_leF, z_eqF, z_b_0, z_b_1, ↓reduceIte, eq_self, not_true_eq_false, not_false_eq_true, and_true, true_and, and_false, false_and, Nat.add_zero, Nat.zero_add])
  simp only [z_it_0] at e
  refine ⟨z_ri I (t + 1) (z_it (fun j => I (t + 1) j + I (o + 1) j) (I (t + 1)) 15), ?_, ?_, h.1, h.2.1, h.2.2.1, ?_⟩
  · unfold f_Ty_add
    simp (disch := omega) only [e, or_true, true_or, or_false, false_or, z_b_T, z_b_F, Bool.false_eq_true, Classical.not_not, decide_eq_true_eq, z_sq, Option.bind_some, z_lits, z_n_add, z_n_mul, z_lt, z_le, z_eq, z_ne1, z_1ne, z_lt1, z_1lt, z_ltT, z_ltF, z_leT, z_leF, z_eqF, z_b_0, z_b_1, ↓reduceIte, eq_self, not_true_eq_false, not_false_eq_true, and_true, true_and, and_false, false_and, Nat.add_zero, Nat.zero_add]
  · intro a ha
    rw [z_ri_a ha]
  · intro q i hq hi
    rw [z_ri_s, z_it_s _ _ (by omega), h.2.2.2 q i hq hi, k.2.2.2 q i hq hi, z_n_add]
def z_ct (I : z_MI) (J : z_MJ) (a b : Int32) (N q t : Nat) : Nat := z_sum N fun s => if z_ii I s a b = true then d_ct (z_Ds I J s) q t else 0
set_option maxRecDepth 100000 in
set_option maxHeartbeats 4000000 in
theorem C_gather (B : z_B S I J P K n.1) {a b : Int32} (ha : a = z_n 0 ∨ a = z_n 1 ∨ a = z_n 2 ∨ a = z_n 3) : ∃ S' I' J' P', f_Rs_gather 8 a b (z_h S I J P n) = some (n.1, z_h S' I' J' P' (n.1 + 2, n.2 + 16)) ∧ z_ag n.1 z_nil S I J P S' I' J' P' ∧ z_ty S' I' P' n.1 (z_ct I J a b 24) := by
  have hn : 131 ≤ n.1 := B.2.2.1.1
  obtain ⟨S', I', J', P', h1, h2, h3⟩ := C_tally0 (S := S) (I := I) (J := J) (P := P) (n := n) rfl (by omega)
  have key := z_runI (fun m i (I2 : z_MI) => f_Rs_gather_L11 8 a b n.1 m (z_n i) (z_h S' I2 J' P' (n.1 + 2, n.2 + 16))) 24
    (fun i I2 => z_ag n.1 z_nil S I J P S' I2 J' P' ∧ z_ty S' I2 P' n.1 (z_ct I J a b i))
    (fun r => ∃ I2, r = some ((), z_h S' I2 J' P' (n.1 + 2, n.2 + 16)) ∧ z_ag n.1 z_nil S I J P S' I2 J' P' ∧ z_ty S' I2 P' n.1 (z_ct I J a b 24)) (by omega)
    (by
      intro m i I2 hi ⟨g, k⟩
      have B2 : z_B S' I2 J' P' K (n.1 + 2) := B.mono z_keep0 g (by omega)
      have cg := g.cg (K := K) z_keep0 B.2.2.1.2 hn
      have hS := B2.qS
      have hP := B2.qP
      have pw := C_pageWithin (n := (n.1 + 2, n.2 + 16)) B2 (s := i) (b := b) hi ha
      rw [z_ii_c cg] at pw
      have e8 : q_gr (q_gf (z_h S' I2 J' P' (n.1 + 2, n.2 + 16)) 0 8 3) = some 13 := z_gr (s_8 hS) rfl (p_8_3 hP)
      by_cases hii : z_ii I i a b = true
      · rcases B2.pg hi with ⟨h5, h6⟩ | ⟨h5, p, h6, h7⟩
        · rw [z_th_c cg] at h5
          unfold z_ii at hii
          rw [h5] at hii
          simp at hii
        · have hp : p + 12 < n.1 := by
            rcases B.pg hi with ⟨h8, h9⟩ | ⟨h8, p', h9, h10⟩
            · rw [z_th_c cg, h8] at h5; cases h5
            · have := (g 18 (by omega)).1.2
              rw [this, h9] at h6
              cases h6
              exact h10.1.2.1
          obtain ⟨I3, e1, e2, e3⟩ := C_add (J := J') (n := (n.1 + 2, n.2 + 16)) k h7.ty (by omega) (by omega)
          refine ⟨I3, ⟨fun x hx => ⟨(g x hx).1, fun q => ?_⟩, ?_⟩, ?_⟩
          · rw [e2 x (by omega)]; exact (g x hx).2 q
          · have : z_ct I J a b (i + 1) = fun q t => z_ct I J a b i q t + d_ct (z_Ds I2 J' i) q t := by
              funext q t
              unfold z_ct
              rw [z_sum_s, if_pos hii, z_Ds_c cg]
            rw [this]; exact e3
          · have r1 := e3.r
            have o1 : q_ob (z_h S' I2 J' P' (n.1 + 2, n.2 + 16)) 9 n.1 = some _ := z_ob k.1
            have r3 := z_ps_r h7.2.1
            simp (disch := omega) only [f_Rs_gather_L11, e8, z_ob (s_13 hS), pw, hii, h6, r3, o1, e1, or_true, true_or, or_false, false_or, z_b_T, z_b_F, Bool.false_eq_true, Classical.not_not, decide_eq_true_eq, z_sq, Option.bind_some, z_lits, z_n_add, z_n_mul, z_lt, z_le, z_eq, z_ne1, z_1ne, z_lt1, z_1lt, z_ltT, z_ltF, z_leT, z_leF, z_eqF, z_b_0, z_b_1, ↓reduceIte, eq_self, not_true_eq_false, not_false_eq_true, and_true, true_and, and_false, false_and, Nat.add_zero, Nat.zero_add]
      · refine ⟨I2, ⟨g, ?_⟩, ?_⟩
        · have : z_ct I J a b (i + 1) = z_ct I J a b i := by
            funext q t
            unfold z_ct
            rw [z_sum_s, if_neg hii, Nat.add_zero]
          rw [this]; exact k
        · simp (disch := omega) only [f_Rs_gather_L11, e8, z_ob (s_13 hS), pw, hii, or_true, true_or, or_false, false_or, z_b_T, z_b_F, Bool.false_eq_true, Classical.not_not, decide_eq_true_eq, z_sq, Option.bind_some, z_lits, z_n_add, z_n_mul, z_lt, z_le, z_eq, z_ne1, z_1ne, z_lt1, z_1lt, z_ltT, z_ltF, z_leT, z_leF, z_eqF, z_b_0, z_b_1, ↓reduceIte, eq_self, not_true_eq_false, not_false_eq_true, and_true, true_and, and_false, false_and, Nat.add_zero, Nat.zero_add])
    (by
      intro m I2 ⟨g, k⟩
      refine ⟨I2, ?_, g, k⟩
      simp (disch := omega) only [f_Rs_gather_L11, or_true, true_or, or_false, false_or, z_b_T, z_b_F, Bool.false_eq_true, Classical.not_not, decide_eq_true_eq, z_sq, Option.bind_some, z_lits, z_n_add, z_n_mul, z_lt, z_le, z_eq, z_ne1, z_1ne, z_lt1, z_1lt, z_ltT, z_ltF, z_leT, z_leF, z_eqF, z_b_0, z_b_1, ↓reduceIte, eq_self, not_true_eq_false, not_false_eq_true, and_true, true_and, and_false, false_and, Nat.add_zero, Nat.zero_add])
    (x := I') ⟨h2, h3⟩
  obtain ⟨I2, k1, k2, k3⟩ := key
  refine ⟨S', I2, J', P', ?_, k2, k3⟩
  unfold f_Rs_gather q_ma
  show q_sq (f_Ty_init n.1 (q_mk (z_h S I J P n) 9 [.null])) (fun _ σ3 => q_sq (f_Rs_gather_L11 8 a b n.1 q_FU (z_n 0) σ3) fun _ σ6 => some (n.1, σ6)) = _
  rw [h1, z_sq, k1, z_sq]
end
