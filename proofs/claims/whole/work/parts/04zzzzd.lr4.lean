/-! LAW: the reference's steps run. -/
section
variable {S : z_SH} {I : z_MI} {J : z_MJ} {P : z_MP} {n : Nat × Nat} {v : l_V}
set_option maxRecDepth 100000 in
set_option maxHeartbeats 4000000 in
theorem M_opens (hS : z_St S) (hP : z_Pt P) {d : Nat} (hd : d ≤ 6) : f_Mo_opens 83 (z_n d) (z_h S I J P n) = some ((), z_h S (y_opn d I) J P n) := by
  unfold y_opn
  simp (disch := omega) only [f_Mo_opens, z_Mr hS hP, z_Mw hS, or_true, true_or, or_false, false_or, z_b_T, z_b_F, Bool.false_eq_true, Classical.not_not, decide_eq_true_eq, z_sq, Option.bind_some, z_lits, z_n_add, z_n_mul, z_lt, z_le, z_eq, z_ne1, z_1ne, z_lt1, z_1lt, z_ltT, z_ltF, z_leT, z_leF, z_eqF, z_b_0, z_b_1, ↓reduceIte, eq_self, not_true_eq_false, not_false_eq_true, and_true, true_and, and_false, false_and, Nat.add_zero, Nat.zero_add]
set_option maxRecDepth 100000 in
set_option maxHeartbeats 4000000 in
theorem M_sums (hS : z_St S) (hP : z_Pt P) {d : Nat} (hd : d ≤ 6) : f_Mo_sums 83 (z_n d) (z_h S I J P n) = some ((), z_h S (y_sum d I) J P n) := by
  unfold y_sum y_pd
  by_cases h : I 115 d = z_n 21
  · simp (disch := omega) only [f_Mo_sums, h, z_Mr hS hP, z_Mw hS, or_true, true_or, or_false, false_or, z_b_T, z_b_F, Bool.false_eq_true, Classical.not_not, decide_eq_true_eq, z_sq, Option.bind_some, z_lits, z_n_add, z_n_mul, z_lt, z_le, z_eq, z_ne1, z_1ne, z_lt1, z_1lt, z_ltT, z_ltF, z_leT, z_leF, z_eqF, z_b_0, z_b_1, ↓reduceIte, eq_self, not_true_eq_false, not_false_eq_true, and_true, true_and, and_false, false_and, Nat.add_zero, Nat.zero_add]
  · simp (disch := omega) only [f_Mo_sums, h, z_Mr hS hP, z_Mw hS, or_true, true_or, or_false, false_or, z_b_T, z_b_F, Bool.false_eq_true, Classical.not_not, decide_eq_true_eq, z_sq, Option.bind_some, z_lits, z_n_add, z_n_mul, z_lt, z_le, z_eq, z_ne1, z_1ne, z_lt1, z_1lt, z_ltT, z_ltF, z_leT, z_leF, z_eqF, z_b_0, z_b_1, ↓reduceIte, eq_self, not_true_eq_false, not_false_eq_true, and_true, true_and, and_false, false_and, Nat.add_zero, Nat.zero_add]
set_option maxRecDepth 100000 in
set_option maxHeartbeats 4000000 in
theorem M_tests (hS : z_St S) (hP : z_Pt P) {d : Nat} (hd : d ≤ 6) : f_Mo_tests 83 (z_n d) (z_h S I J P n) = some ((), z_h S (y_tst d I) J P n) := by
  have om := fun I J => z_ob (I := I) (J := J) (P := P) (n := n) (s_83 hS)
  have ms := M_sums (I := I) (J := J) (n := n) hS hP hd
  have s114 : y_sum d I 114 d = y_pd d I := by unfold y_sum; rw [z_up_o (by omega), z_up_s]
  have s113 : y_sum d I 113 d = I 113 d := y_sum_o (by omega)
  have s112 : y_sum d I 112 d = I 112 d := y_sum_o (by omega)
  have s111 : y_sum d I 111 d = I 111 d := y_sum_o (by omega)
  have s110 : y_sum d I 110 d = I 110 d := y_sum_o (by omega)
  unfold y_tst y_tv y_t0
  generalize y_sum d I = Y at *
  have g42 : ∀ X, q_gr (q_gf (z_h S X J P n) 12 83 42) = some 110 := fun _ => z_gr (s_83 hS) rfl (p_83_42 hP)
  have g43 : ∀ X, q_gr (q_gf (z_h S X J P n) 12 83 43) = some 111 := fun _ => z_gr (s_83 hS) rfl (p_83_43 hP)
  have g44 : ∀ X, q_gr (q_gf (z_h S X J P n) 12 83 44) = some 112 := fun _ => z_gr (s_83 hS) rfl (p_83_44 hP)
  have g45 : ∀ X, q_gr (q_gf (z_h S X J P n) 12 83 45) = some 113 := fun _ => z_gr (s_83 hS) rfl (p_83_45 hP)
  have g46 : ∀ X, q_gr (q_gf (z_h S X J P n) 12 83 46) = some 114 := fun _ => z_gr (s_83 hS) rfl (p_83_46 hP)
  have r114 : q_gi (q_ga (z_h S Y J P n) 20 114 (z_n d)) = some (y_pd d I) := by rw [z_gia (s_114 hS) (by omega) (z_rpl (by omega)), s114]
  have r113 : q_gi (q_ga (z_h S Y J P n) 20 113 (z_n d)) = some (I 113 d) := by rw [z_gia (s_113 hS) (by omega) (z_rpl (by omega)), s113]
  have r112 : q_gi (q_ga (z_h S Y J P n) 20 112 (z_n d)) = some (I 112 d) := by rw [z_gia (s_112 hS) (by omega) (z_rpl (by omega)), s112]
  have r111 : q_gi (q_ga (z_h S Y J P n) 20 111 (z_n d)) = some (I 111 d) := by rw [z_gia (s_111 hS) (by omega) (z_rpl (by omega)), s111]
  have r110 : q_gi (q_ga (z_h S Y J P n) 20 110 (z_n d)) = some (I 110 d) := by rw [z_gia (s_110 hS) (by omega) (z_rpl (by omega)), s110]
  have R : ∀ t, ((q_gr (q_gf (z_h S Y J P n) 12 83 43)).bind fun x26 => (q_gi (q_ga (z_h S Y J P n) 20 x26 (z_n d))).bind fun x27 => q_sq (if x27 = (26 : Int32) then ((q_gr (q_gf (z_h S Y J P n) 12 83 42)).bind fun x29 => (q_gi (q_ga (z_h S Y J P n) 20 x29 (z_n d))).bind fun x30 => if x30 = (0 : Int32) then (some ((0 : Int32), (z_h S Y J P n))) else (if t = (0 : Int32) then (some ((0 : Int32), (z_h S Y J P n))) else (some ((1 : Int32), (z_h S Y J P n))))) else (some (t, (z_h S Y J P n)))) fun (t33 : Int32) σ34 => (q_gr (q_gf σ34 12 83 43)).bind fun x35 => (q_gi (q_ga σ34 20 x35 (z_n d))).bind fun x36 => q_sq (if x36 = (27 : Int32) then ((q_gr (q_gf σ34 12 83 42)).bind fun x38 => (q_gi (q_ga σ34 20 x38 (z_n d))).bind fun x39 => if x39 = (0 : Int32) then (if t33 = (0 : Int32) then (some ((0 : Int32), σ34)) else (some ((1 : Int32), σ34))) else (some ((1 : Int32), σ34))) else (some (t33, σ34))) fun (t42 : Int32) σ43 => (q_gr (q_gf σ43 12 83 42)).bind fun x44 => (q_sa σ43 20 x44 (z_n d) (.int t42)).bind fun σ45 => (q_gr (q_gf σ45 12 83 45)).bind fun x46 => (q_sa σ45 20 x46 (z_n d) (.int (0 : Int32))).bind fun σ47 => (q_gr (q_gf σ47 12 83 46)).bind fun x48 => (q_sa σ47 20 x48 (z_n d) (.int (0 : Int32))).bind fun σ49 => (q_gr (q_gf σ49 12 83 47)).bind fun x50 => (q_sa σ49 20 x50 (z_n d) (.int (20 : Int32))).bind fun σ51 => some ((), σ51)) = some ((), z_h S (z_up (z_up (z_up (z_up Y 110 d (if I 111 d = z_n 26 then k_jn 20002 (I 110 d) t else if I 111 d = z_n 27 then k_jn 20003 (I 110 d) t else t)) 113 d (z_n 0)) 114 d (z_n 0)) 115 d (z_n 20)) J P n) := by
    intro t
    unfold k_jn
    by_cases h26 : I 111 d = z_n 26
    · by_cases k0 : I 110 d = z_n 0 <;> by_cases t0 : t = z_n 0 <;> simp (disch := omega) only [g42, g43, r111, r110, h26, k0, t0, z_Mr hS hP, z_Mw hS, or_true, true_or, or_false, false_or, z_b_T, z_b_F, Bool.false_eq_true, Classical.not_not, decide_eq_true_eq, z_sq, Option.bind_some, z_lits, z_n_add, z_n_mul, z_lt, z_le, z_eq, z_ne1, z_1ne, z_lt1, z_1lt, z_ltT, z_ltF, z_leT, z_leF, z_eqF, z_b_0, z_b_1, ↓reduceIte, eq_self, not_true_eq_false, not_false_eq_true, and_true, true_and, and_false, false_and, Nat.add_zero, Nat.zero_add]
    · by_cases h27 : I 111 d = z_n 27
      · by_cases k0 : I 110 d = z_n 0 <;> by_cases t0 : t = z_n 0 <;> simp (disch := omega) only [g42, g43, r111, r110, h26, h27, k0, t0, z_Mr hS hP, z_Mw hS, or_true, true_or, or_false, false_or, z_b_T, z_b_F, Bool.false_eq_true, Classical.not_not, decide_eq_true_eq, z_sq, Option.bind_some, z_lits, z_n_add, z_n_mul, z_lt, z_le, z_eq, z_ne1, z_1ne, z_lt1, z_1lt, z_ltT, z_ltF, z_leT, z_leF, z_eqF, z_b_0, z_b_1, ↓reduceIte, eq_self, not_true_eq_false, not_false_eq_true, and_true, true_and, and_false, false_and, Nat.add_zero, Nat.zero_add]
      · simp (disch := omega) only [g42, g43, r111, h26, h27, z_Mr hS hP, z_Mw hS, or_true, true_or, or_false, false_or, z_b_T, z_b_F, Bool.false_eq_true, Classical.not_not, decide_eq_true_eq, z_sq, Option.bind_some, z_lits, z_n_add, z_n_mul, z_lt, z_le, z_eq, z_ne1, z_1ne, z_lt1, z_1lt, z_ltT, z_ltF, z_leT, z_leF, z_eqF, z_b_0, z_b_1, ↓reduceIte, eq_self, not_true_eq_false, not_false_eq_true, and_true, true_and, and_false, false_and, Nat.add_zero, Nat.zero_add]
  unfold f_Mo_tests
  rw [om, Option.bind_some, ms, z_sq, g46, Option.bind_some, r114, Option.bind_some, g45, Option.bind_some, r113, Option.bind_some]
  by_cases h24 : I 113 d = z_n 24
  · rw [if_pos (show I 113 d = (24 : Int32) from h24), g44, Option.bind_some, r112, Option.bind_some, Option.bind_some, r114, Option.bind_some, if_pos h24]
    by_cases l : I 112 d < y_pd d I
    · rw [if_pos l, if_pos l, z_sq, g45, Option.bind_some, r113, Option.bind_some, if_neg (show ¬ I 113 d = (25 : Int32) by rw [h24]; decide), z_sq]
      exact R (z_n 1)
    · rw [if_neg l, if_neg l, z_sq, g45, Option.bind_some, r113, Option.bind_some, if_neg (show ¬ I 113 d = (25 : Int32) by rw [h24]; decide), z_sq]
      exact R (z_n 0)
  · rw [if_neg (show ¬ I 113 d = (24 : Int32) from h24), z_sq, g45, Option.bind_some, r113, Option.bind_some, if_neg h24]
    by_cases h25 : I 113 d = z_n 25
    · rw [if_pos (show I 113 d = (25 : Int32) from h25), g44, Option.bind_some, r112, Option.bind_some, g46, Option.bind_some, r114, Option.bind_some, if_pos h25]
      by_cases l : I 112 d = y_pd d I
      · rw [if_pos l, if_pos l, z_sq]
        exact R (z_n 1)
      · rw [if_neg l, if_neg l, z_sq]
        exact R (z_n 0)
    · rw [if_neg (show ¬ I 113 d = (25 : Int32) from h25), z_sq, if_neg h25]
      exact R _
theorem y_dl_le (X : Nat → Int32) : ∀ d v, (y_dl X d v).1 ≤ d
  | 0, v => Nat.le_refl _
  | d + 1, v => by
    rw [y_dl]
    split
    · exact Nat.le_succ_of_le (y_dl_le X d _)
    · exact Nat.le_refl _
set_option maxRecDepth 100000 in
set_option maxHeartbeats 4000000 in
theorem M_dl (hS : z_St S) (hP : z_Pt P) (l k : Int32) : ∀ (d f : Nat) (x : Int32), d ≤ 6 → d < f → f_Mo_worth_L268 83 l k f (z_n d) x (z_h S I J P n) = some ((z_n (y_dl (I 118) d x).1, (y_dl (I 118) d x).2), z_h S I J P n)
  | d, 0, x, _, hf => absurd hf (by omega)
  | 0, f + 1, x, _, _ => by
    rw [f_Mo_worth_L268, if_neg (by decide)]
    rfl
  | d + 1, f + 1, x, hd, hf => by
    have g50 : q_gr (q_gf (z_h S I J P n) 12 83 50) = some 118 := z_gr (s_83 hS) rfl (p_83_50 hP)
    have r118 : q_gi (q_ga (z_h S I J P n) 20 118 (z_n (d + 1))) = some (I 118 (d + 1)) := z_gia (s_118 hS) (by omega) (z_rpl (by omega))
    rw [f_Mo_worth_L268, if_pos (show (0 : Int32) < z_n (d + 1) by rw [show (0 : Int32) = z_n 0 from rfl, z_lt (by omega) (by omega)]; omega), g50, Option.bind_some, r118, Option.bind_some, y_dl]
    by_cases h : I 118 (d + 1) = z_n 1
    · rw [if_pos (show I 118 (d + 1) = (1 : Int32) from h), if_pos h, show (-1 : Int32) = -z_n 1 from rfl, k_dec]
      unfold k_nt
      by_cases x0 : x = z_n 0
      · rw [if_pos (show x = (0 : Int32) from x0), if_pos x0]
        exact M_dl hS hP l k d f _ (by omega) (by omega)
      · rw [if_neg (show ¬ x = (0 : Int32) from x0), if_neg x0]
        exact M_dl hS hP l k d f _ (by omega) (by omega)
    · rw [if_neg (show ¬ I 118 (d + 1) = (1 : Int32) from h), if_neg h]
end
