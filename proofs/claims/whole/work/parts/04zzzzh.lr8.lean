/-! LAW: the reference's loop, turn by turn. -/
def y_pp (X : Nat → Int32) : Nat → Nat
  | 0 => 0
  | d + 1 => if X (d + 1) = z_n 1 then y_pp X d else d + 1
theorem y_pp_le (X : Nat → Int32) : ∀ d, y_pp X d ≤ d
  | 0 => Nat.le_refl _
  | d + 1 => by
    rw [y_pp]
    split
    · exact Nat.le_succ_of_le (y_pp_le X d)
    · exact Nat.le_refl _
theorem y_pp_eq {X Y : Nat → Int32} : ∀ d, (∀ i, i ≤ d → X i = Y i) → y_pp X d = y_pp Y d
  | 0, _ => rfl
  | d + 1, h => by rw [y_pp, y_pp, h (d + 1) (Nat.le_refl _), y_pp_eq d (fun i hi => h i (by omega))]
theorem y_pp_at {X : Nat → Int32} {d : Nat} (h : d = 0 ∨ ¬ X d = z_n 1) : y_pp X d = d := by
  cases d with
  | zero => rfl
  | succ d => rw [y_pp, if_neg (h.resolve_left (by omega))]
section
variable {S : z_SH} {I : z_MI} {J : z_MJ} {P : z_MP} {n : Nat × Nat} {T : k_T} {p d z : Nat}
set_option maxRecDepth 100000 in
set_option maxHeartbeats 4000000 in
theorem M_pop (hS : z_St S) (hP : z_Pt P) (v2 : Int32) : ∀ (d f : Nat), d ≤ 6 → d < f → f_Mo_reads_L379 83 v2 f (z_n d) (z_h S I J P n) = some (z_n (y_pp (I 108) d), z_h S I J P n)
  | d, 0, _, hf => absurd hf (by omega)
  | 0, f + 1, _, _ => by
    rw [f_Mo_reads_L379, if_neg (by decide)]
    rfl
  | d + 1, f + 1, hd, hf => by
    have g40 : q_gr (q_gf (z_h S I J P n) 12 83 40) = some 108 := z_gr (s_83 hS) rfl (p_83_40 hP)
    have r108 : q_gi (q_ga (z_h S I J P n) 20 108 (z_n (d + 1))) = some (I 108 (d + 1)) := z_gia (s_108 hS) (by omega) (z_rpl (by omega))
    rw [f_Mo_reads_L379, if_pos (show (0 : Int32) < z_n (d + 1) by rw [show (0 : Int32) = z_n 0 from rfl, z_lt (by omega) (by omega)]; omega), g40, Option.bind_some, r108, Option.bind_some, y_pp]
    by_cases h : I 108 (d + 1) = z_n 1
    · rw [if_pos (show I 108 (d + 1) = (1 : Int32) from h), if_pos h, show (-1 : Int32) = -z_n 1 from rfl, k_dec]
      exact M_pop hS hP v2 d f (by omega) (by omega)
    · rw [if_neg (show ¬ I 108 (d + 1) = (1 : Int32) from h), if_neg h]
set_option maxRecDepth 100000 in
set_option maxHeartbeats 4000000 in
theorem M_pop2 (hS : z_St S) (hP : z_Pt P) (v2 : Int32) : ∀ (d f : Nat), d ≤ 6 → d < f → f_Mo_reads_L152 83 v2 f (z_n d) (z_h S I J P n) = some (z_n (y_pp (I 108) d), z_h S I J P n)
  | d, 0, _, hf => absurd hf (by omega)
  | 0, f + 1, _, _ => by
    rw [f_Mo_reads_L152, if_neg (by decide)]
    rfl
  | d + 1, f + 1, hd, hf => by
    have g40 : q_gr (q_gf (z_h S I J P n) 12 83 40) = some 108 := z_gr (s_83 hS) rfl (p_83_40 hP)
    have r108 : q_gi (q_ga (z_h S I J P n) 20 108 (z_n (d + 1))) = some (I 108 (d + 1)) := z_gia (s_108 hS) (by omega) (z_rpl (by omega))
    rw [f_Mo_reads_L152, if_pos (show (0 : Int32) < z_n (d + 1) by rw [show (0 : Int32) = z_n 0 from rfl, z_lt (by omega) (by omega)]; omega), g40, Option.bind_some, r108, Option.bind_some, y_pp]
    by_cases h : I 108 (d + 1) = z_n 1
    · rw [if_pos (show I 108 (d + 1) = (1 : Int32) from h), if_pos h, show (-1 : Int32) = -z_n 1 from rfl, k_dec]
      exact M_pop2 hS hP v2 d f (by omega) (by omega)
    · rw [if_neg (show ¬ I 108 (d + 1) = (1 : Int32) from h), if_neg h]
set_option maxRecDepth 100000 in
set_option maxHeartbeats 4000000 in
theorem R_plus (hS : z_St S) (hP : z_Pt P) (hT : k_hd (I 83 18) (I 99) T) (hp : p ≤ T.1) (k : k_M T p I J) (h39 : I 83 39 = z_n (4000 + z)) (hz : z ≤ p) (hd : d ≤ 5) (h : k_is T p 43 = true) : ∃ X Z, (∀ m, f_Mo_reads_L11 83 (m + 1) (z_n d) (z_n 0) (z_h S I J P n) = f_Mo_reads_L11 83 m (z_n d) (z_n 1) (z_h S X Z P n)) ∧ y_mf I J X Z ∧ k_M T (k_e T p) X Z ∧ y_me z [20] I X ∧ (X 108 = I 108) ∧ (X 109 = I 109) := by
  have om := fun I J => z_ob (I := I) (J := J) (P := P) (n := n) (s_83 hS)
  have g40 : ∀ X J, q_gr (q_gf (z_h S X J P n) 12 83 40) = some 108 := fun _ _ => z_gr (s_83 hS) rfl (p_83_40 hP)
  have g41 : ∀ X J, q_gr (q_gf (z_h S X J P n) 12 83 41) = some 109 := fun _ _ => z_gr (s_83 hS) rfl (p_83_41 hP)
  have w108 : ∀ X J i v, i < 7 → q_sa (z_h S X J P n) 20 108 (z_n i) (.int v) = some (z_h S (z_up X 108 i v) J P n) := fun _ _ _ _ hi => z_sai (s_108 hS) (by decide) (by omega) (z_rpl hi)
  have w109 : ∀ X J i v, i < 7 → q_sa (z_h S X J P n) 22 109 (z_n i) (.int v) = some (z_h S (z_up X 109 i v) J P n) := fun _ _ _ _ hi => z_sai (s_109 hS) (by decide) (by omega) (z_rpl hi)
  have r109 : ∀ i, i < 7 → q_gi (q_ga (z_h S I J P n) 22 109 (z_n i)) = some (I 109 i) := fun i hi => z_gia (s_109 hS) (by omega) (z_rpl hi)
  have n10 : ¬ z_n 1 = (0 : Int32) := by decide
  have z00 : z_n 0 = (0 : Int32) := rfl
  have sg : ∀ c, c ≤ 126 → f_Mo_isSign 83 (z_n c) (z_h S I J P n) = some (z_b (k_is T p c = true), z_h S I J P n) := fun c hc => M_isSign hS hP hT hp k hc
  have er := M_errs (n := n) hS hP k
  have pu := fun (hl : z < 1000) x => M_puts (I := I) (J := J) (P := P) (n := n) hS hP (c := 4000 + z) (by omega) h39 x
  have s43 : f_Mo_isSign 83 (43 : Int32) (z_h S I J P n) = some (z_n 1, z_h S I J P n) := (sg 43 (by omega)).trans (by rw [z_b_t h])
  have s45 : f_Mo_isSign 83 (45 : Int32) (z_h S I J P n) = some (z_n 0, z_h S I J P n) := (sg 45 (by omega)).trans (by rw [k_is_o h (by omega), z_b_f (by decide)])
  have s42 : f_Mo_isSign 83 (42 : Int32) (z_h S I J P n) = some (z_n 0, z_h S I J P n) := (sg 42 (by omega)).trans (by rw [k_is_o h (by omega), z_b_f (by decide)])
  have zl : z < 1000 := by have := hT.1; have := (k_end_p hp (show ¬ k_k T p = 0 by rw [(k_is_k h).1]; omega)).1; omega
  obtain ⟨X, Z, a1, a2, a3, a4, a5, a6⟩ := M_pn (n := n) hS hP hT hp k (z := z) (x := 20) (Y := z_up (z_up I 107 (4000 + z) (z_n 20)) 83 39 (z_n (4000 + z + 1))) (fun a q1 q2 q3 q4 => by simp only [z_ups q1, z_ups q2, z_ups q3, z_ups q4]) (fun i hi => by
    rw [z_up_i hi, z_ups (by omega)]) (by
    rw [z_up_s]) (by
    rw [z_ups (by omega), z_up_s]) (fun i hi => by
    rw [z_ups (by omega), z_up_i hi])
  refine ⟨X, Z, fun m => ?_, a2, a3, a4, a5.trans (by rw [z_ups (by omega), z_ups (by omega)]), a6.trans (by rw [z_ups (by omega), z_ups (by omega)])⟩
  rw [f_Mo_reads_L11, if_pos (show z_n 0 = (0 : Int32) from rfl), om, Option.bind_some, s43, z_sq, if_neg n10, om, Option.bind_some, s43, z_sq, if_neg n10, z_sq, om, Option.bind_some, pu zl, z_sq, om, Option.bind_some, show (20 : Int32) = z_n 20 from rfl, a1, z_sq]
  rfl
set_option maxRecDepth 100000 in
set_option maxHeartbeats 4000000 in
theorem R_minus (hS : z_St S) (hP : z_Pt P) (hT : k_hd (I 83 18) (I 99) T) (hp : p ≤ T.1) (k : k_M T p I J) (h39 : I 83 39 = z_n (4000 + z)) (hz : z ≤ p) (hd : d ≤ 5) (h : k_is T p 45 = true) : ∃ X Z, (∀ m, f_Mo_reads_L11 83 (m + 1) (z_n d) (z_n 0) (z_h S I J P n) = f_Mo_reads_L11 83 m (z_n d) (z_n 1) (z_h S X Z P n)) ∧ y_mf I J X Z ∧ k_M T (k_e T p) X Z ∧ y_me z [21] I X ∧ (X 108 = I 108) ∧ (X 109 = I 109) := by
  have om := fun I J => z_ob (I := I) (J := J) (P := P) (n := n) (s_83 hS)
  have g40 : ∀ X J, q_gr (q_gf (z_h S X J P n) 12 83 40) = some 108 := fun _ _ => z_gr (s_83 hS) rfl (p_83_40 hP)
  have g41 : ∀ X J, q_gr (q_gf (z_h S X J P n) 12 83 41) = some 109 := fun _ _ => z_gr (s_83 hS) rfl (p_83_41 hP)
  have w108 : ∀ X J i v, i < 7 → q_sa (z_h S X J P n) 20 108 (z_n i) (.int v) = some (z_h S (z_up X 108 i v) J P n) := fun _ _ _ _ hi => z_sai (s_108 hS) (by decide) (by omega) (z_rpl hi)
  have w109 : ∀ X J i v, i < 7 → q_sa (z_h S X J P n) 22 109 (z_n i) (.int v) = some (z_h S (z_up X 109 i v) J P n) := fun _ _ _ _ hi => z_sai (s_109 hS) (by decide) (by omega) (z_rpl hi)
  have r109 : ∀ i, i < 7 → q_gi (q_ga (z_h S I J P n) 22 109 (z_n i)) = some (I 109 i) := fun i hi => z_gia (s_109 hS) (by omega) (z_rpl hi)
  have n10 : ¬ z_n 1 = (0 : Int32) := by decide
  have z00 : z_n 0 = (0 : Int32) := rfl
  have sg : ∀ c, c ≤ 126 → f_Mo_isSign 83 (z_n c) (z_h S I J P n) = some (z_b (k_is T p c = true), z_h S I J P n) := fun c hc => M_isSign hS hP hT hp k hc
  have er := M_errs (n := n) hS hP k
  have pu := fun (hl : z < 1000) x => M_puts (I := I) (J := J) (P := P) (n := n) hS hP (c := 4000 + z) (by omega) h39 x
  have s43 : f_Mo_isSign 83 (43 : Int32) (z_h S I J P n) = some (z_n 0, z_h S I J P n) := (sg 43 (by omega)).trans (by rw [k_is_o h (by omega), z_b_f (by decide)])
  have s45 : f_Mo_isSign 83 (45 : Int32) (z_h S I J P n) = some (z_n 1, z_h S I J P n) := (sg 45 (by omega)).trans (by rw [z_b_t h])
  have s42 : f_Mo_isSign 83 (42 : Int32) (z_h S I J P n) = some (z_n 0, z_h S I J P n) := (sg 42 (by omega)).trans (by rw [k_is_o h (by omega), z_b_f (by decide)])
  have zl : z < 1000 := by have := hT.1; have := (k_end_p hp (show ¬ k_k T p = 0 by rw [(k_is_k h).1]; omega)).1; omega
  obtain ⟨X, Z, a1, a2, a3, a4, a5, a6⟩ := M_pn (n := n) hS hP hT hp k (z := z) (x := 21) (Y := z_up (z_up I 107 (4000 + z) (z_n 21)) 83 39 (z_n (4000 + z + 1))) (fun a q1 q2 q3 q4 => by simp only [z_ups q1, z_ups q2, z_ups q3, z_ups q4]) (fun i hi => by
    rw [z_up_i hi, z_ups (by omega)]) (by
    rw [z_up_s]) (by
    rw [z_ups (by omega), z_up_s]) (fun i hi => by
    rw [z_ups (by omega), z_up_i hi])
  refine ⟨X, Z, fun m => ?_, a2, a3, a4, a5.trans (by rw [z_ups (by omega), z_ups (by omega)]), a6.trans (by rw [z_ups (by omega), z_ups (by omega)])⟩
  rw [f_Mo_reads_L11, if_pos (show z_n 0 = (0 : Int32) from rfl), om, Option.bind_some, s43, z_sq, if_pos z00, om, Option.bind_some, s45, z_sq, if_neg n10, om, Option.bind_some, s43, z_sq, if_pos z00, om, Option.bind_some, s45, z_sq, if_neg n10, z_sq, om, Option.bind_some, pu zl, z_sq, om, Option.bind_some, show (21 : Int32) = z_n 21 from rfl, a1, z_sq]
  rfl
set_option maxRecDepth 100000 in
set_option maxHeartbeats 4000000 in
theorem R_times (hS : z_St S) (hP : z_Pt P) (hT : k_hd (I 83 18) (I 99) T) (hp : p ≤ T.1) (k : k_M T p I J) (h39 : I 83 39 = z_n (4000 + z)) (hz : z ≤ p) (hd : d ≤ 5) (h : k_is T p 42 = true) : ∃ X Z, (∀ m, f_Mo_reads_L11 83 (m + 1) (z_n d) (z_n 0) (z_h S I J P n) = f_Mo_reads_L11 83 m (z_n d) (z_n 1) (z_h S X Z P n)) ∧ y_mf I J X Z ∧ k_M T (k_e T p) X Z ∧ y_me z [22] I X ∧ (X 108 = I 108) ∧ (X 109 = I 109) := by
  have om := fun I J => z_ob (I := I) (J := J) (P := P) (n := n) (s_83 hS)
  have g40 : ∀ X J, q_gr (q_gf (z_h S X J P n) 12 83 40) = some 108 := fun _ _ => z_gr (s_83 hS) rfl (p_83_40 hP)
  have g41 : ∀ X J, q_gr (q_gf (z_h S X J P n) 12 83 41) = some 109 := fun _ _ => z_gr (s_83 hS) rfl (p_83_41 hP)
  have w108 : ∀ X J i v, i < 7 → q_sa (z_h S X J P n) 20 108 (z_n i) (.int v) = some (z_h S (z_up X 108 i v) J P n) := fun _ _ _ _ hi => z_sai (s_108 hS) (by decide) (by omega) (z_rpl hi)
  have w109 : ∀ X J i v, i < 7 → q_sa (z_h S X J P n) 22 109 (z_n i) (.int v) = some (z_h S (z_up X 109 i v) J P n) := fun _ _ _ _ hi => z_sai (s_109 hS) (by decide) (by omega) (z_rpl hi)
  have r109 : ∀ i, i < 7 → q_gi (q_ga (z_h S I J P n) 22 109 (z_n i)) = some (I 109 i) := fun i hi => z_gia (s_109 hS) (by omega) (z_rpl hi)
  have n10 : ¬ z_n 1 = (0 : Int32) := by decide
  have z00 : z_n 0 = (0 : Int32) := rfl
  have sg : ∀ c, c ≤ 126 → f_Mo_isSign 83 (z_n c) (z_h S I J P n) = some (z_b (k_is T p c = true), z_h S I J P n) := fun c hc => M_isSign hS hP hT hp k hc
  have er := M_errs (n := n) hS hP k
  have pu := fun (hl : z < 1000) x => M_puts (I := I) (J := J) (P := P) (n := n) hS hP (c := 4000 + z) (by omega) h39 x
  have s43 : f_Mo_isSign 83 (43 : Int32) (z_h S I J P n) = some (z_n 0, z_h S I J P n) := (sg 43 (by omega)).trans (by rw [k_is_o h (by omega), z_b_f (by decide)])
  have s45 : f_Mo_isSign 83 (45 : Int32) (z_h S I J P n) = some (z_n 0, z_h S I J P n) := (sg 45 (by omega)).trans (by rw [k_is_o h (by omega), z_b_f (by decide)])
  have s42 : f_Mo_isSign 83 (42 : Int32) (z_h S I J P n) = some (z_n 1, z_h S I J P n) := (sg 42 (by omega)).trans (by rw [z_b_t h])
  have zl : z < 1000 := by have := hT.1; have := (k_end_p hp (show ¬ k_k T p = 0 by rw [(k_is_k h).1]; omega)).1; omega
  obtain ⟨X, Z, a1, a2, a3, a4, a5, a6⟩ := M_pn (n := n) hS hP hT hp k (z := z) (x := 22) (Y := z_up (z_up I 107 (4000 + z) (z_n 22)) 83 39 (z_n (4000 + z + 1))) (fun a q1 q2 q3 q4 => by simp only [z_ups q1, z_ups q2, z_ups q3, z_ups q4]) (fun i hi => by
    rw [z_up_i hi, z_ups (by omega)]) (by
    rw [z_up_s]) (by
    rw [z_ups (by omega), z_up_s]) (fun i hi => by
    rw [z_ups (by omega), z_up_i hi])
  refine ⟨X, Z, fun m => ?_, a2, a3, a4, a5.trans (by rw [z_ups (by omega), z_ups (by omega)]), a6.trans (by rw [z_ups (by omega), z_ups (by omega)])⟩
  rw [f_Mo_reads_L11, if_pos (show z_n 0 = (0 : Int32) from rfl), om, Option.bind_some, s43, z_sq, if_pos z00, om, Option.bind_some, s45, z_sq, if_pos z00, om, Option.bind_some, s42, z_sq, if_neg n10, om, Option.bind_some, s43, z_sq, if_pos z00, om, Option.bind_some, s45, z_sq, if_pos z00, z_sq, om, Option.bind_some, pu zl, z_sq, om, Option.bind_some, show (22 : Int32) = z_n 22 from rfl, a1, z_sq]
  rfl
set_option maxRecDepth 100000 in
set_option maxHeartbeats 4000000 in
theorem R_less (hS : z_St S) (hP : z_Pt P) (hT : k_hd (I 83 18) (I 99) T) (hp : p ≤ T.1) (k : k_M T p I J) (h39 : I 83 39 = z_n (4000 + z)) (hz : z ≤ p) (hd : d ≤ 5) (h : k_is T p 60 = true) (h9 : I 109 d = z_n 0) : ∃ X Z, (∀ m, f_Mo_reads_L11 83 (m + 1) (z_n d) (z_n 0) (z_h S I J P n) = f_Mo_reads_L11 83 m (z_n d) (z_n 1) (z_h S X Z P n)) ∧ y_mf I J X Z ∧ k_M T (k_e T p) X Z ∧ y_me z [24] I X ∧ (X 108 = I 108) ∧ (∀ j, X 109 j = if j = d then z_n 1 else I 109 j) := by
  have om := fun I J => z_ob (I := I) (J := J) (P := P) (n := n) (s_83 hS)
  have g40 : ∀ X J, q_gr (q_gf (z_h S X J P n) 12 83 40) = some 108 := fun _ _ => z_gr (s_83 hS) rfl (p_83_40 hP)
  have g41 : ∀ X J, q_gr (q_gf (z_h S X J P n) 12 83 41) = some 109 := fun _ _ => z_gr (s_83 hS) rfl (p_83_41 hP)
  have w108 : ∀ X J i v, i < 7 → q_sa (z_h S X J P n) 20 108 (z_n i) (.int v) = some (z_h S (z_up X 108 i v) J P n) := fun _ _ _ _ hi => z_sai (s_108 hS) (by decide) (by omega) (z_rpl hi)
  have w109 : ∀ X J i v, i < 7 → q_sa (z_h S X J P n) 22 109 (z_n i) (.int v) = some (z_h S (z_up X 109 i v) J P n) := fun _ _ _ _ hi => z_sai (s_109 hS) (by decide) (by omega) (z_rpl hi)
  have r109 : ∀ i, i < 7 → q_gi (q_ga (z_h S I J P n) 22 109 (z_n i)) = some (I 109 i) := fun i hi => z_gia (s_109 hS) (by omega) (z_rpl hi)
  have n10 : ¬ z_n 1 = (0 : Int32) := by decide
  have z00 : z_n 0 = (0 : Int32) := rfl
  have sg : ∀ c, c ≤ 126 → f_Mo_isSign 83 (z_n c) (z_h S I J P n) = some (z_b (k_is T p c = true), z_h S I J P n) := fun c hc => M_isSign hS hP hT hp k hc
  have er := M_errs (n := n) hS hP k
  have pu := fun (hl : z < 1000) x => M_puts (I := I) (J := J) (P := P) (n := n) hS hP (c := 4000 + z) (by omega) h39 x
  have s43 : f_Mo_isSign 83 (43 : Int32) (z_h S I J P n) = some (z_n 0, z_h S I J P n) := (sg 43 (by omega)).trans (by rw [k_is_o h (by omega), z_b_f (by decide)])
  have s45 : f_Mo_isSign 83 (45 : Int32) (z_h S I J P n) = some (z_n 0, z_h S I J P n) := (sg 45 (by omega)).trans (by rw [k_is_o h (by omega), z_b_f (by decide)])
  have s42 : f_Mo_isSign 83 (42 : Int32) (z_h S I J P n) = some (z_n 0, z_h S I J P n) := (sg 42 (by omega)).trans (by rw [k_is_o h (by omega), z_b_f (by decide)])
  have s60 : f_Mo_isSign 83 (60 : Int32) (z_h S I J P n) = some (z_n 1, z_h S I J P n) := (sg 60 (by omega)).trans (by rw [z_b_t h])
  have s61 : f_Mo_isSign 83 (61 : Int32) (z_h S I J P n) = some (z_n 0, z_h S I J P n) := (sg 61 (by omega)).trans (by rw [k_is_o h (by omega), z_b_f (by decide)])
  have zl : z < 1000 := by have := hT.1; have := (k_end_p hp (show ¬ k_k T p = 0 by rw [(k_is_k h).1]; omega)).1; omega
  obtain ⟨X, Z, a1, a2, a3, a4, a5, a6⟩ := M_pn (n := n) hS hP hT hp k (z := z) (x := 24) (Y := z_up (z_up (z_up I 107 (4000 + z) (z_n 24)) 83 39 (z_n (4000 + z + 1))) 109 (d) (z_n 1)) (fun a q1 q2 q3 q4 => by simp only [z_ups q1, z_ups q2, z_ups q3, z_ups q4]) (fun i hi => by
    rw [z_ups (by omega), z_up_i hi, z_ups (by omega)]) (by
    rw [z_ups (by omega), z_up_s]) (by
    rw [z_ups (by omega), z_ups (by omega), z_up_s]) (fun i hi => by
    rw [z_ups (by omega), z_ups (by omega), z_up_i hi])
  refine ⟨X, Z, fun m => ?_, a2, a3, a4, a5.trans (by rw [z_ups (by omega), z_ups (by omega), z_ups (by omega)]), fun j => by rw [a6, z_up_e, z_ups (by omega), z_ups (by omega)]⟩
  rw [f_Mo_reads_L11, if_pos (show z_n 0 = (0 : Int32) from rfl), om, Option.bind_some, s43, z_sq, if_pos z00, om, Option.bind_some, s45, z_sq, if_pos z00, om, Option.bind_some, s42, z_sq, if_pos z00, om, Option.bind_some, s60, z_sq, if_neg n10, g41, Option.bind_some, r109 d (by omega), Option.bind_some, h9, if_pos z00, om, Option.bind_some, s60, z_sq, if_neg n10, z_sq, om, Option.bind_some, pu zl, z_sq, g41, Option.bind_some, w109 _ _ _ _ (show d < 7 by omega), Option.bind_some, om, Option.bind_some, show (24 : Int32) = z_n 24 from rfl, show (1 : Int32) = z_n 1 from rfl, a1, z_sq]
set_option maxRecDepth 100000 in
set_option maxHeartbeats 4000000 in
theorem R_same (hS : z_St S) (hP : z_Pt P) (hT : k_hd (I 83 18) (I 99) T) (hp : p ≤ T.1) (k : k_M T p I J) (h39 : I 83 39 = z_n (4000 + z)) (hz : z ≤ p) (hd : d ≤ 5) (h : k_is T p 61 = true) (h9 : I 109 d = z_n 0) : ∃ X Z, (∀ m, f_Mo_reads_L11 83 (m + 1) (z_n d) (z_n 0) (z_h S I J P n) = f_Mo_reads_L11 83 m (z_n d) (z_n 1) (z_h S X Z P n)) ∧ y_mf I J X Z ∧ k_M T (k_e T p) X Z ∧ y_me z [25] I X ∧ (X 108 = I 108) ∧ (∀ j, X 109 j = if j = d then z_n 1 else I 109 j) := by
  have om := fun I J => z_ob (I := I) (J := J) (P := P) (n := n) (s_83 hS)
  have g40 : ∀ X J, q_gr (q_gf (z_h S X J P n) 12 83 40) = some 108 := fun _ _ => z_gr (s_83 hS) rfl (p_83_40 hP)
  have g41 : ∀ X J, q_gr (q_gf (z_h S X J P n) 12 83 41) = some 109 := fun _ _ => z_gr (s_83 hS) rfl (p_83_41 hP)
  have w108 : ∀ X J i v, i < 7 → q_sa (z_h S X J P n) 20 108 (z_n i) (.int v) = some (z_h S (z_up X 108 i v) J P n) := fun _ _ _ _ hi => z_sai (s_108 hS) (by decide) (by omega) (z_rpl hi)
  have w109 : ∀ X J i v, i < 7 → q_sa (z_h S X J P n) 22 109 (z_n i) (.int v) = some (z_h S (z_up X 109 i v) J P n) := fun _ _ _ _ hi => z_sai (s_109 hS) (by decide) (by omega) (z_rpl hi)
  have r109 : ∀ i, i < 7 → q_gi (q_ga (z_h S I J P n) 22 109 (z_n i)) = some (I 109 i) := fun i hi => z_gia (s_109 hS) (by omega) (z_rpl hi)
  have n10 : ¬ z_n 1 = (0 : Int32) := by decide
  have z00 : z_n 0 = (0 : Int32) := rfl
  have sg : ∀ c, c ≤ 126 → f_Mo_isSign 83 (z_n c) (z_h S I J P n) = some (z_b (k_is T p c = true), z_h S I J P n) := fun c hc => M_isSign hS hP hT hp k hc
  have er := M_errs (n := n) hS hP k
  have pu := fun (hl : z < 1000) x => M_puts (I := I) (J := J) (P := P) (n := n) hS hP (c := 4000 + z) (by omega) h39 x
  have s43 : f_Mo_isSign 83 (43 : Int32) (z_h S I J P n) = some (z_n 0, z_h S I J P n) := (sg 43 (by omega)).trans (by rw [k_is_o h (by omega), z_b_f (by decide)])
  have s45 : f_Mo_isSign 83 (45 : Int32) (z_h S I J P n) = some (z_n 0, z_h S I J P n) := (sg 45 (by omega)).trans (by rw [k_is_o h (by omega), z_b_f (by decide)])
  have s42 : f_Mo_isSign 83 (42 : Int32) (z_h S I J P n) = some (z_n 0, z_h S I J P n) := (sg 42 (by omega)).trans (by rw [k_is_o h (by omega), z_b_f (by decide)])
  have s60 : f_Mo_isSign 83 (60 : Int32) (z_h S I J P n) = some (z_n 0, z_h S I J P n) := (sg 60 (by omega)).trans (by rw [k_is_o h (by omega), z_b_f (by decide)])
  have s61 : f_Mo_isSign 83 (61 : Int32) (z_h S I J P n) = some (z_n 1, z_h S I J P n) := (sg 61 (by omega)).trans (by rw [z_b_t h])
  have zl : z < 1000 := by have := hT.1; have := (k_end_p hp (show ¬ k_k T p = 0 by rw [(k_is_k h).1]; omega)).1; omega
  obtain ⟨X, Z, a1, a2, a3, a4, a5, a6⟩ := M_pn (n := n) hS hP hT hp k (z := z) (x := 25) (Y := z_up (z_up (z_up I 107 (4000 + z) (z_n 25)) 83 39 (z_n (4000 + z + 1))) 109 (d) (z_n 1)) (fun a q1 q2 q3 q4 => by simp only [z_ups q1, z_ups q2, z_ups q3, z_ups q4]) (fun i hi => by
    rw [z_ups (by omega), z_up_i hi, z_ups (by omega)]) (by
    rw [z_ups (by omega), z_up_s]) (by
    rw [z_ups (by omega), z_ups (by omega), z_up_s]) (fun i hi => by
    rw [z_ups (by omega), z_ups (by omega), z_up_i hi])
  refine ⟨X, Z, fun m => ?_, a2, a3, a4, a5.trans (by rw [z_ups (by omega), z_ups (by omega), z_ups (by omega)]), fun j => by rw [a6, z_up_e, z_ups (by omega), z_ups (by omega)]⟩
  rw [f_Mo_reads_L11, if_pos (show z_n 0 = (0 : Int32) from rfl), om, Option.bind_some, s43, z_sq, if_pos z00, om, Option.bind_some, s45, z_sq, if_pos z00, om, Option.bind_some, s42, z_sq, if_pos z00, om, Option.bind_some, s60, z_sq, if_pos z00, om, Option.bind_some, s61, z_sq, if_neg n10, g41, Option.bind_some, r109 d (by omega), Option.bind_some, h9, if_pos z00, om, Option.bind_some, s60, z_sq, if_pos z00, z_sq, om, Option.bind_some, pu zl, z_sq, g41, Option.bind_some, w109 _ _ _ _ (show d < 7 by omega), Option.bind_some, om, Option.bind_some, show (25 : Int32) = z_n 25 from rfl, show (1 : Int32) = z_n 1 from rfl, a1, z_sq]
set_option maxRecDepth 100000 in
set_option maxHeartbeats 4000000 in
theorem R_and (hS : z_St S) (hP : z_Pt P) (hT : k_hd (I 83 18) (I 99) T) (hp : p ≤ T.1) (k : k_M T p I J) (h39 : I 83 39 = z_n (4000 + z)) (hz : z ≤ p) (hd : d ≤ 5) (hw : k_ix T k_w2 p = 13) : ∃ X Z, (∀ m, f_Mo_reads_L11 83 (m + 1) (z_n d) (z_n 0) (z_h S I J P n) = f_Mo_reads_L11 83 m (z_n d) (z_n 1) (z_h S X Z P n)) ∧ y_mf I J X Z ∧ k_M T (k_e T p) X Z ∧ y_me z [26] I X ∧ (X 108 = I 108) ∧ (∀ j, X 109 j = if j = d then z_n 0 else I 109 j) := by
  have om := fun I J => z_ob (I := I) (J := J) (P := P) (n := n) (s_83 hS)
  have g40 : ∀ X J, q_gr (q_gf (z_h S X J P n) 12 83 40) = some 108 := fun _ _ => z_gr (s_83 hS) rfl (p_83_40 hP)
  have g41 : ∀ X J, q_gr (q_gf (z_h S X J P n) 12 83 41) = some 109 := fun _ _ => z_gr (s_83 hS) rfl (p_83_41 hP)
  have w108 : ∀ X J i v, i < 7 → q_sa (z_h S X J P n) 20 108 (z_n i) (.int v) = some (z_h S (z_up X 108 i v) J P n) := fun _ _ _ _ hi => z_sai (s_108 hS) (by decide) (by omega) (z_rpl hi)
  have w109 : ∀ X J i v, i < 7 → q_sa (z_h S X J P n) 22 109 (z_n i) (.int v) = some (z_h S (z_up X 109 i v) J P n) := fun _ _ _ _ hi => z_sai (s_109 hS) (by decide) (by omega) (z_rpl hi)
  have r109 : ∀ i, i < 7 → q_gi (q_ga (z_h S I J P n) 22 109 (z_n i)) = some (I 109 i) := fun i hi => z_gia (s_109 hS) (by omega) (z_rpl hi)
  have n10 : ¬ z_n 1 = (0 : Int32) := by decide
  have z00 : z_n 0 = (0 : Int32) := rfl
  have sg : ∀ c, c ≤ 126 → f_Mo_isSign 83 (z_n c) (z_h S I J P n) = some (z_b (k_is T p c = true), z_h S I J P n) := fun c hc => M_isSign hS hP hT hp k hc
  have er := M_errs (n := n) hS hP k
  have pu := fun (hl : z < 1000) x => M_puts (I := I) (J := J) (P := P) (n := n) hS hP (c := 4000 + z) (by omega) h39 x
  have hk : ¬ k_k T p = 3 := by rw [(k_i2_is (show k_ix T k_w2 p < 18 by omega)).1]; omega
  have s43 : f_Mo_isSign 83 (43 : Int32) (z_h S I J P n) = some (z_n 0, z_h S I J P n) := (sg 43 (by omega)).trans (by rw [z_b_f (fun e => hk (k_is_k e).1)])
  have s45 : f_Mo_isSign 83 (45 : Int32) (z_h S I J P n) = some (z_n 0, z_h S I J P n) := (sg 45 (by omega)).trans (by rw [z_b_f (fun e => hk (k_is_k e).1)])
  have s42 : f_Mo_isSign 83 (42 : Int32) (z_h S I J P n) = some (z_n 0, z_h S I J P n) := (sg 42 (by omega)).trans (by rw [z_b_f (fun e => hk (k_is_k e).1)])
  have s60 : f_Mo_isSign 83 (60 : Int32) (z_h S I J P n) = some (z_n 0, z_h S I J P n) := (sg 60 (by omega)).trans (by rw [z_b_f (fun e => hk (k_is_k e).1)])
  have s61 : f_Mo_isSign 83 (61 : Int32) (z_h S I J P n) = some (z_n 0, z_h S I J P n) := (sg 61 (by omega)).trans (by rw [z_b_f (fun e => hk (k_is_k e).1)])
  have w1111 : f_Mo_isWord 83 (1111 : Int64) (z_h S I J P n) = some (z_n 1, z_h S I J P n) := (M_wd2 hS k (i := 13) (by omega)).trans (by rw [z_b_t hw])
  have w423 : f_Mo_isWord 83 (423 : Int64) (z_h S I J P n) = some (z_n 0, z_h S I J P n) := (M_wd2 hS k (i := 14) (by omega)).trans (by rw [z_b_f (by omega)])
  have zl : z < 1000 := by have := hT.1; have := (k_end_p hp (show ¬ k_k T p = 0 by rw [(k_i2_is (show k_ix T k_w2 p < 18 by omega)).1]; omega)).1; omega
  obtain ⟨X, Z, a1, a2, a3, a4, a5, a6⟩ := M_pn (n := n) hS hP hT hp k (z := z) (x := 26) (Y := z_up (z_up (z_up I 107 (4000 + z) (z_n 26)) 83 39 (z_n (4000 + z + 1))) 109 (d) (z_n 0)) (fun a q1 q2 q3 q4 => by simp only [z_ups q1, z_ups q2, z_ups q3, z_ups q4]) (fun i hi => by
    rw [z_ups (by omega), z_up_i hi, z_ups (by omega)]) (by
    rw [z_ups (by omega), z_up_s]) (by
    rw [z_ups (by omega), z_ups (by omega), z_up_s]) (fun i hi => by
    rw [z_ups (by omega), z_ups (by omega), z_up_i hi])
  refine ⟨X, Z, fun m => ?_, a2, a3, a4, a5.trans (by rw [z_ups (by omega), z_ups (by omega), z_ups (by omega)]), fun j => by rw [a6, z_up_e, z_ups (by omega), z_ups (by omega)]⟩
  rw [f_Mo_reads_L11, if_pos (show z_n 0 = (0 : Int32) from rfl), om, Option.bind_some, s43, z_sq, if_pos z00, om, Option.bind_some, s45, z_sq, if_pos z00, om, Option.bind_some, s42, z_sq, if_pos z00, om, Option.bind_some, s60, z_sq, if_pos z00, om, Option.bind_some, s61, z_sq, if_pos z00, om, Option.bind_some, w1111, z_sq, if_neg n10, om, Option.bind_some, w1111, z_sq, if_neg n10, z_sq, om, Option.bind_some, pu zl, z_sq, g41, Option.bind_some, w109 _ _ _ _ (show d < 7 by omega), Option.bind_some, om, Option.bind_some, show (26 : Int32) = z_n 26 from rfl, show (0 : Int32) = z_n 0 from rfl, a1, z_sq]
  rfl
set_option maxRecDepth 100000 in
set_option maxHeartbeats 4000000 in
theorem R_or (hS : z_St S) (hP : z_Pt P) (hT : k_hd (I 83 18) (I 99) T) (hp : p ≤ T.1) (k : k_M T p I J) (h39 : I 83 39 = z_n (4000 + z)) (hz : z ≤ p) (hd : d ≤ 5) (hw : k_ix T k_w2 p = 14) : ∃ X Z, (∀ m, f_Mo_reads_L11 83 (m + 1) (z_n d) (z_n 0) (z_h S I J P n) = f_Mo_reads_L11 83 m (z_n d) (z_n 1) (z_h S X Z P n)) ∧ y_mf I J X Z ∧ k_M T (k_e T p) X Z ∧ y_me z [27] I X ∧ (X 108 = I 108) ∧ (∀ j, X 109 j = if j = d then z_n 0 else I 109 j) := by
  have om := fun I J => z_ob (I := I) (J := J) (P := P) (n := n) (s_83 hS)
  have g40 : ∀ X J, q_gr (q_gf (z_h S X J P n) 12 83 40) = some 108 := fun _ _ => z_gr (s_83 hS) rfl (p_83_40 hP)
  have g41 : ∀ X J, q_gr (q_gf (z_h S X J P n) 12 83 41) = some 109 := fun _ _ => z_gr (s_83 hS) rfl (p_83_41 hP)
  have w108 : ∀ X J i v, i < 7 → q_sa (z_h S X J P n) 20 108 (z_n i) (.int v) = some (z_h S (z_up X 108 i v) J P n) := fun _ _ _ _ hi => z_sai (s_108 hS) (by decide) (by omega) (z_rpl hi)
  have w109 : ∀ X J i v, i < 7 → q_sa (z_h S X J P n) 22 109 (z_n i) (.int v) = some (z_h S (z_up X 109 i v) J P n) := fun _ _ _ _ hi => z_sai (s_109 hS) (by decide) (by omega) (z_rpl hi)
  have r109 : ∀ i, i < 7 → q_gi (q_ga (z_h S I J P n) 22 109 (z_n i)) = some (I 109 i) := fun i hi => z_gia (s_109 hS) (by omega) (z_rpl hi)
  have n10 : ¬ z_n 1 = (0 : Int32) := by decide
  have z00 : z_n 0 = (0 : Int32) := rfl
  have sg : ∀ c, c ≤ 126 → f_Mo_isSign 83 (z_n c) (z_h S I J P n) = some (z_b (k_is T p c = true), z_h S I J P n) := fun c hc => M_isSign hS hP hT hp k hc
  have er := M_errs (n := n) hS hP k
  have pu := fun (hl : z < 1000) x => M_puts (I := I) (J := J) (P := P) (n := n) hS hP (c := 4000 + z) (by omega) h39 x
  have hk : ¬ k_k T p = 3 := by rw [(k_i2_is (show k_ix T k_w2 p < 18 by omega)).1]; omega
  have s43 : f_Mo_isSign 83 (43 : Int32) (z_h S I J P n) = some (z_n 0, z_h S I J P n) := (sg 43 (by omega)).trans (by rw [z_b_f (fun e => hk (k_is_k e).1)])
  have s45 : f_Mo_isSign 83 (45 : Int32) (z_h S I J P n) = some (z_n 0, z_h S I J P n) := (sg 45 (by omega)).trans (by rw [z_b_f (fun e => hk (k_is_k e).1)])
  have s42 : f_Mo_isSign 83 (42 : Int32) (z_h S I J P n) = some (z_n 0, z_h S I J P n) := (sg 42 (by omega)).trans (by rw [z_b_f (fun e => hk (k_is_k e).1)])
  have s60 : f_Mo_isSign 83 (60 : Int32) (z_h S I J P n) = some (z_n 0, z_h S I J P n) := (sg 60 (by omega)).trans (by rw [z_b_f (fun e => hk (k_is_k e).1)])
  have s61 : f_Mo_isSign 83 (61 : Int32) (z_h S I J P n) = some (z_n 0, z_h S I J P n) := (sg 61 (by omega)).trans (by rw [z_b_f (fun e => hk (k_is_k e).1)])
  have w1111 : f_Mo_isWord 83 (1111 : Int64) (z_h S I J P n) = some (z_n 0, z_h S I J P n) := (M_wd2 hS k (i := 13) (by omega)).trans (by rw [z_b_f (by omega)])
  have w423 : f_Mo_isWord 83 (423 : Int64) (z_h S I J P n) = some (z_n 1, z_h S I J P n) := (M_wd2 hS k (i := 14) (by omega)).trans (by rw [z_b_t hw])
  have zl : z < 1000 := by have := hT.1; have := (k_end_p hp (show ¬ k_k T p = 0 by rw [(k_i2_is (show k_ix T k_w2 p < 18 by omega)).1]; omega)).1; omega
  obtain ⟨X, Z, a1, a2, a3, a4, a5, a6⟩ := M_pn (n := n) hS hP hT hp k (z := z) (x := 27) (Y := z_up (z_up (z_up I 107 (4000 + z) (z_n 27)) 83 39 (z_n (4000 + z + 1))) 109 (d) (z_n 0)) (fun a q1 q2 q3 q4 => by simp only [z_ups q1, z_ups q2, z_ups q3, z_ups q4]) (fun i hi => by
    rw [z_ups (by omega), z_up_i hi, z_ups (by omega)]) (by
    rw [z_ups (by omega), z_up_s]) (by
    rw [z_ups (by omega), z_ups (by omega), z_up_s]) (fun i hi => by
    rw [z_ups (by omega), z_ups (by omega), z_up_i hi])
  refine ⟨X, Z, fun m => ?_, a2, a3, a4, a5.trans (by rw [z_ups (by omega), z_ups (by omega), z_ups (by omega)]), fun j => by rw [a6, z_up_e, z_ups (by omega), z_ups (by omega)]⟩
  rw [f_Mo_reads_L11, if_pos (show z_n 0 = (0 : Int32) from rfl), om, Option.bind_some, s43, z_sq, if_pos z00, om, Option.bind_some, s45, z_sq, if_pos z00, om, Option.bind_some, s42, z_sq, if_pos z00, om, Option.bind_some, s60, z_sq, if_pos z00, om, Option.bind_some, s61, z_sq, if_pos z00, om, Option.bind_some, w1111, z_sq, if_pos z00, om, Option.bind_some, w423, z_sq, if_neg n10, om, Option.bind_some, w1111, z_sq, if_pos z00, z_sq, om, Option.bind_some, pu zl, z_sq, g41, Option.bind_some, w109 _ _ _ _ (show d < 7 by omega), Option.bind_some, om, Option.bind_some, show (27 : Int32) = z_n 27 from rfl, show (0 : Int32) = z_n 0 from rfl, a1, z_sq]
  rfl
set_option maxRecDepth 100000 in
set_option maxHeartbeats 4000000 in
theorem R_close (hS : z_St S) (hP : z_Pt P) (hT : k_hd (I 83 18) (I 99) T) (hp : p ≤ T.1) (k : k_M T p I J) (h39 : I 83 39 = z_n (4000 + z)) (hz : z ≤ p) (hd : d ≤ 5) (h : k_is T p 41 = true) (d0 : 0 < d) : ∃ X Z, (∀ m, f_Mo_reads_L11 83 (m + 1) (z_n d) (z_n 0) (z_h S I J P n) = f_Mo_reads_L11 83 m (z_n (y_pp (I 108) (d - 1))) (z_n 0) (z_h S X Z P n)) ∧ y_mf I J X Z ∧ k_M T (k_e T p) X Z ∧ y_me z [29] I X ∧ (X 108 = I 108) ∧ (X 109 = I 109) := by
  have om := fun I J => z_ob (I := I) (J := J) (P := P) (n := n) (s_83 hS)
  have g40 : ∀ X J, q_gr (q_gf (z_h S X J P n) 12 83 40) = some 108 := fun _ _ => z_gr (s_83 hS) rfl (p_83_40 hP)
  have g41 : ∀ X J, q_gr (q_gf (z_h S X J P n) 12 83 41) = some 109 := fun _ _ => z_gr (s_83 hS) rfl (p_83_41 hP)
  have w108 : ∀ X J i v, i < 7 → q_sa (z_h S X J P n) 20 108 (z_n i) (.int v) = some (z_h S (z_up X 108 i v) J P n) := fun _ _ _ _ hi => z_sai (s_108 hS) (by decide) (by omega) (z_rpl hi)
  have w109 : ∀ X J i v, i < 7 → q_sa (z_h S X J P n) 22 109 (z_n i) (.int v) = some (z_h S (z_up X 109 i v) J P n) := fun _ _ _ _ hi => z_sai (s_109 hS) (by decide) (by omega) (z_rpl hi)
  have r109 : ∀ i, i < 7 → q_gi (q_ga (z_h S I J P n) 22 109 (z_n i)) = some (I 109 i) := fun i hi => z_gia (s_109 hS) (by omega) (z_rpl hi)
  have n10 : ¬ z_n 1 = (0 : Int32) := by decide
  have z00 : z_n 0 = (0 : Int32) := rfl
  have sg : ∀ c, c ≤ 126 → f_Mo_isSign 83 (z_n c) (z_h S I J P n) = some (z_b (k_is T p c = true), z_h S I J P n) := fun c hc => M_isSign hS hP hT hp k hc
  have er := M_errs (n := n) hS hP k
  have pu := fun (hl : z < 1000) x => M_puts (I := I) (J := J) (P := P) (n := n) hS hP (c := 4000 + z) (by omega) h39 x
  have hw : k_ix T k_w2 p = 18 := k_i2_s (by rw [(k_is_k h).1]; omega)
  have s43 : f_Mo_isSign 83 (43 : Int32) (z_h S I J P n) = some (z_n 0, z_h S I J P n) := (sg 43 (by omega)).trans (by rw [k_is_o h (by omega), z_b_f (by decide)])
  have s45 : f_Mo_isSign 83 (45 : Int32) (z_h S I J P n) = some (z_n 0, z_h S I J P n) := (sg 45 (by omega)).trans (by rw [k_is_o h (by omega), z_b_f (by decide)])
  have s42 : f_Mo_isSign 83 (42 : Int32) (z_h S I J P n) = some (z_n 0, z_h S I J P n) := (sg 42 (by omega)).trans (by rw [k_is_o h (by omega), z_b_f (by decide)])
  have s60 : f_Mo_isSign 83 (60 : Int32) (z_h S I J P n) = some (z_n 0, z_h S I J P n) := (sg 60 (by omega)).trans (by rw [k_is_o h (by omega), z_b_f (by decide)])
  have s61 : f_Mo_isSign 83 (61 : Int32) (z_h S I J P n) = some (z_n 0, z_h S I J P n) := (sg 61 (by omega)).trans (by rw [k_is_o h (by omega), z_b_f (by decide)])
  have s41 : f_Mo_isSign 83 (41 : Int32) (z_h S I J P n) = some (z_n 1, z_h S I J P n) := (sg 41 (by omega)).trans (by rw [z_b_t h])
  have w1111 : f_Mo_isWord 83 (1111 : Int64) (z_h S I J P n) = some (z_n 0, z_h S I J P n) := (M_wd2 hS k (i := 13) (by omega)).trans (by rw [z_b_f (by omega)])
  have w423 : f_Mo_isWord 83 (423 : Int64) (z_h S I J P n) = some (z_n 0, z_h S I J P n) := (M_wd2 hS k (i := 14) (by omega)).trans (by rw [z_b_f (by omega)])
  have zl : z < 1000 := by have := hT.1; have := (k_end_p hp (show ¬ k_k T p = 0 by rw [(k_is_k h).1]; omega)).1; omega
  obtain ⟨X, Z, a1, a2, a3, a4, a5, a6⟩ := M_pn (n := n) hS hP hT hp k (z := z) (x := 29) (Y := z_up (z_up I 107 (4000 + z) (z_n 29)) 83 39 (z_n (4000 + z + 1))) (fun a q1 q2 q3 q4 => by simp only [z_ups q1, z_ups q2, z_ups q3, z_ups q4]) (fun i hi => by
    rw [z_up_i hi, z_ups (by omega)]) (by
    rw [z_up_s]) (by
    rw [z_ups (by omega), z_up_s]) (fun i hi => by
    rw [z_ups (by omega), z_up_i hi])
  refine ⟨X, Z, fun m => ?_, a2, a3, a4, a5.trans (by rw [z_ups (by omega), z_ups (by omega)]), a6.trans (by rw [z_ups (by omega), z_ups (by omega)])⟩
  rw [f_Mo_reads_L11, if_pos (show z_n 0 = (0 : Int32) from rfl), om, Option.bind_some, s43, z_sq, if_pos z00, om, Option.bind_some, s45, z_sq, if_pos z00, om, Option.bind_some, s42, z_sq, if_pos z00, om, Option.bind_some, s60, z_sq, if_pos z00, om, Option.bind_some, s61, z_sq, if_pos z00, om, Option.bind_some, w1111, z_sq, if_pos z00, om, Option.bind_some, w423, z_sq, if_pos z00, om, Option.bind_some, s41, z_sq, if_neg n10, if_pos (show (0 : Int32) < z_n d by rw [show (0 : Int32) = z_n 0 from rfl, z_lt (by omega) (by omega)]; omega), om, Option.bind_some, pu zl, z_sq, show z_n d + (-1 : Int32) = z_n (d - 1) by rw [show (-1 : Int32) = -z_n 1 from rfl, ← Int32.sub_eq_add_neg, z_n_sub (by omega)], M_pop hS hP _ (d - 1) q_FU (by omega) (by rw [z_FU]; omega), z_sq, om, Option.bind_some, show (29 : Int32) = z_n 29 from rfl, a1, z_sq, z_ups (show 108 ≠ 83 by omega), z_ups (show 108 ≠ 107 by omega)]
end
