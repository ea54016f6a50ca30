/-! LAW: the reference's loop, turn by turn. -/
section
variable {S : z_SH} {I : z_MI} {J : z_MJ} {P : z_MP} {n : Nat × Nat} {T : k_T} {p d z : Nat}
set_option maxRecDepth 100000 in
set_option maxHeartbeats 4000000 in
theorem R_end (hS : z_St S) (hP : z_Pt P) (hT : k_hd (I 83 18) (I 99) T) (hp : p ≤ T.1) (k : k_M T p I J) (h39 : I 83 39 = z_n (4000 + z)) (hz : z ≤ p) (hd : d ≤ 5) (h : k_is T p 59 = true) : ∃ X Z, (∀ m, f_Mo_reads_L11 83 (m + 1) (z_n 0) (z_n 0) (z_h S I J P n) = some (z_n 1, z_h S X Z P n)) ∧ y_mf I J X Z ∧ k_M T (k_e T p) X Z ∧ X 83 39 = I 83 39 ∧ X 107 = I 107 := by
  have om := fun I J => z_ob (I := I) (J := J) (P := P) (n := n) (s_83 hS)
  have g40 : ∀ X J, q_gr (q_gf (z_h S X J P n) 12 83 40) = some 108 := fun _ _ => z_gr (s_83 hS) rfl (p_83_40 hP)
  have g41 : ∀ X J, q_gr (q_gf (z_h S X J P n) 12 83 41) = some 109 := fun _ _ => z_gr (s_83 hS) rfl (p_83_41 hP)
  have w108 : ∀ X J i v, i < 7 → q_sa (z_h S X J P n) 20 108 (z_n i) (.int v) = some (z_h S (z_up X 108 i v) J P n) := fun _ _ _ _ hi => z_sai (s_108 hS) (by decide) (by omega) (z_rpl hi)
  have w109 : ∀ X J i v, i < 7 → q_sa (z_h S X J P n) 22 109 (z_n i) (.int v) = some (z_h S (z_up X 109 i v) J P n) := fun _ _ _ _ hi => z_sai (s_109 hS) (by decide) (by omega) (z_rpl hi)
  have r109 : ∀ i, i < 7 → q_gi (q_ga (z_h S I J P n) 22 109 (z_n i)) = some (I 109 i) := fun i hi => z_gia (s_109 hS) (by omega) (z_rpl hi)
  have n10 : ¬ z_n 1 = (0 : Int32) := by decide
  have z00 : z_n 0 = (0 : Int32) := rfl
  have sg : ∀ c, c ≤ 126 → f_Mo_isSign 83 (z_n c) (z_h S I J P n) = some (z_b (k_is T p c = true), z_h S I J P n) := fun c hc => M_isSign hS hP hT hp k hc
  have er := M_errs (n := n) hS hP k
  have pu := fun (hl : z < 1000) x => M_puts (I := I) (J := J) (P := P) (n := n) hS hP (c := 4000 + z) (by omega) h39 x
  have er1 : f_Mo_errs 83 (1 : Int32) (z_h S I J P n) = some (z_n 0, z_h S (z_up I 83 24 (z_n (k_fl T 1 p))) J P n) := er 1
  have er5 : f_Mo_errs 83 (5 : Int32) (z_h S I J P n) = some (z_n 0, z_h S (z_up I 83 24 (z_n (k_fl T 5 p))) J P n) := er 5
  have nn : ¬ ¬ (z_n 0 = (0 : Int32) ∨ z_n 0 = (1 : Int32)) := by decide
  have r21 : q_gi (q_gf (z_h S I J P n) 12 83 21) = some (z_n (k_k T p)) := by rw [z_gi (s_83 hS) rfl, k.2.2.1]
  have k4 := @k_k4 T p
  have i18 := @k_i2_le T p
  have hw : k_ix T k_w2 p = 18 := k_i2_s (by rw [(k_is_k h).1]; omega)
  have s43 : f_Mo_isSign 83 (43 : Int32) (z_h S I J P n) = some (z_n 0, z_h S I J P n) := (sg 43 (by omega)).trans (by rw [k_is_o h (by omega), z_b_f (by decide)])
  have s45 : f_Mo_isSign 83 (45 : Int32) (z_h S I J P n) = some (z_n 0, z_h S I J P n) := (sg 45 (by omega)).trans (by rw [k_is_o h (by omega), z_b_f (by decide)])
  have s42 : f_Mo_isSign 83 (42 : Int32) (z_h S I J P n) = some (z_n 0, z_h S I J P n) := (sg 42 (by omega)).trans (by rw [k_is_o h (by omega), z_b_f (by decide)])
  have s60 : f_Mo_isSign 83 (60 : Int32) (z_h S I J P n) = some (z_n 0, z_h S I J P n) := (sg 60 (by omega)).trans (by rw [k_is_o h (by omega), z_b_f (by decide)])
  have s61 : f_Mo_isSign 83 (61 : Int32) (z_h S I J P n) = some (z_n 0, z_h S I J P n) := (sg 61 (by omega)).trans (by rw [k_is_o h (by omega), z_b_f (by decide)])
  have s41 : f_Mo_isSign 83 (41 : Int32) (z_h S I J P n) = some (z_n 0, z_h S I J P n) := (sg 41 (by omega)).trans (by rw [k_is_o h (by omega), z_b_f (by decide)])
  have s59 : f_Mo_isSign 83 (59 : Int32) (z_h S I J P n) = some (z_n 1, z_h S I J P n) := (sg 59 (by omega)).trans (by rw [z_b_t h])
  have w1111 : f_Mo_isWord 83 (1111 : Int64) (z_h S I J P n) = some (z_n 0, z_h S I J P n) := (M_wd2 hS k (i := 13) (by omega)).trans (by rw [z_b_f (by omega)])
  have w423 : f_Mo_isWord 83 (423 : Int64) (z_h S I J P n) = some (z_n 0, z_h S I J P n) := (M_wd2 hS k (i := 14) (by omega)).trans (by rw [z_b_f (by omega)])
  obtain ⟨X, Z, a1, a2, a3, a4, a5, a6⟩ := M_next (I := I) (J := J) (n := n) hS hP hT (p := k_e T p) (k_e_le hp).2 k.1
  refine ⟨X, Z, fun m => ?_, ⟨fun a q1 q2 q3 q4 => a2 a q1, fun i q1 q2 => by unfold k_5 at q1; exact a3 i (by omega) (by omega) (by omega) (by omega), a4, a5, fun i hi => by rw [a2 107 (by omega)]⟩, a6, a3 39 (by omega) (by omega) (by omega) (by omega), a2 107 (by omega)⟩
  rw [f_Mo_reads_L11, if_pos (show z_n 0 = (0 : Int32) from rfl), om, Option.bind_some, s43, z_sq, if_pos z00, om, Option.bind_some, s45, z_sq, if_pos z00, om, Option.bind_some, s42, z_sq, if_pos z00, om, Option.bind_some, s60, z_sq, if_pos z00, om, Option.bind_some, s61, z_sq, if_pos z00, om, Option.bind_some, w1111, z_sq, if_pos z00, om, Option.bind_some, w423, z_sq, if_pos z00, om, Option.bind_some, s41, z_sq, if_pos z00, if_pos z00, om, Option.bind_some, s59, z_sq, if_neg n10, om, Option.bind_some, a1, z_sq]
  rfl
set_option maxRecDepth 100000 in
set_option maxHeartbeats 4000000 in
theorem R_err (hS : z_St S) (hP : z_Pt P) (hT : k_hd (I 83 18) (I 99) T) (hp : p ≤ T.1) (k : k_M T p I J) (h39 : I 83 39 = z_n (4000 + z)) (hz : z ≤ p) (hd : d ≤ 5) (e43 : k_is T p 43 = false) (e45 : k_is T p 45 = false) (e42 : k_is T p 42 = false) (e9 : I 109 d = z_n 1 ∨ (k_is T p 60 = false ∧ k_is T p 61 = false)) (e13 : ¬ k_ix T k_w2 p = 13) (e14 : ¬ k_ix T k_w2 p = 14) (e41 : d = 0 ∨ k_is T p 41 = false) (e59 : ¬ d = 0 ∨ k_is T p 59 = false) (m : Nat) : f_Mo_reads_L11 83 (m + 1) (z_n d) (z_n 0) (z_h S I J P n) = some (z_n 0, z_h S (z_up I 83 24 (z_n (k_fl T 1 p))) J P n) := by
  have om := fun I J => z_ob (I := I) (J := J) (P := P) (n := n) (s_83 hS)
  have g40 : ∀ X J, q_gr (q_gf (z_h S X J P n) 12 83 40) = some 108 := fun _ _ => z_gr (s_83 hS) rfl (p_83_40 hP)
  have g41 : ∀ X J, q_gr (q_gf (z_h S X J P n) 12 83 41) = some 109 := fun _ _ => z_gr (s_83 hS) rfl (p_83_41 hP)
  have w108 : ∀ X J i v, i < 7 → q_sa (z_h S X J P n) 20 108 (z_n i) (.int v) = some (z_h S (z_up X 108 i v) J P n) := fun _ _ _ _ hi => z_sai (s_108 hS) (by decide) (by omega) (z_rpl hi)
  have w109 : ∀ X J i v, i < 7 → q_sa (z_h S X J P n) 22 109 (z_n i) (.int v) = some (z_h S (z_up X 109 i v) J P n) := fun _ _ _ _ hi => z_sai (s_109 hS) (by decide) (by omega) (z_rpl hi)
  have r109 : ∀ i, i < 7 → q_gi (q_ga (z_h S I J P n) 22 109 (z_n i)) = some (I 109 i) := fun i hi => z_gia (s_109 hS) (by omega) (z_rpl hi)
  have n10 : ¬ z_n 1 = (0 : Int32) := by decide
  have z00 : z_n 0 = (0 : Int32) := rfl
  have sg : ∀ c, c ≤ 126 → f_Mo_isSign 83 (z_n c) (z_h S I J P n) = some (z_b (k_is T p c = true), z_h S I J P n) := fun c hc => M_isSign hS hP hT hp k hc
  have er := M_errs (n := n) hS hP k
  have pu := fun (hl : z < 1000) x => M_puts (I := I) (J := J) (P := P) (n := n) hS hP (c := 4000 + z) (by omega) h39 x
  have er1 : f_Mo_errs 83 (1 : Int32) (z_h S I J P n) = some (z_n 0, z_h S (z_up I 83 24 (z_n (k_fl T 1 p))) J P n) := er 1
  have er5 : f_Mo_errs 83 (5 : Int32) (z_h S I J P n) = some (z_n 0, z_h S (z_up I 83 24 (z_n (k_fl T 5 p))) J P n) := er 5
  have nn : ¬ ¬ (z_n 0 = (0 : Int32) ∨ z_n 0 = (1 : Int32)) := by decide
  have r21 : q_gi (q_gf (z_h S I J P n) 12 83 21) = some (z_n (k_k T p)) := by rw [z_gi (s_83 hS) rfl, k.2.2.1]
  have k4 := @k_k4 T p
  have i18 := @k_i2_le T p
  have s43 : f_Mo_isSign 83 (43 : Int32) (z_h S I J P n) = some (z_n 0, z_h S I J P n) := (sg 43 (by omega)).trans (by rw [e43, z_b_f (by decide)])
  have s45 : f_Mo_isSign 83 (45 : Int32) (z_h S I J P n) = some (z_n 0, z_h S I J P n) := (sg 45 (by omega)).trans (by rw [e45, z_b_f (by decide)])
  have s42 : f_Mo_isSign 83 (42 : Int32) (z_h S I J P n) = some (z_n 0, z_h S I J P n) := (sg 42 (by omega)).trans (by rw [e42, z_b_f (by decide)])
  have t60 : f_Mo_isSign 83 (60 : Int32) (z_h S I J P n) = some (z_b (k_is T p 60 = true), z_h S I J P n) := sg 60 (by omega)
  have t61 : f_Mo_isSign 83 (61 : Int32) (z_h S I J P n) = some (z_b (k_is T p 61 = true), z_h S I J P n) := sg 61 (by omega)
  have t41 : f_Mo_isSign 83 (41 : Int32) (z_h S I J P n) = some (z_b (k_is T p 41 = true), z_h S I J P n) := sg 41 (by omega)
  have t59 : f_Mo_isSign 83 (59 : Int32) (z_h S I J P n) = some (z_b (k_is T p 59 = true), z_h S I J P n) := sg 59 (by omega)
  have w1111 : f_Mo_isWord 83 (1111 : Int64) (z_h S I J P n) = some (z_n 0, z_h S I J P n) := (M_wd2 hS k (i := 13) (by omega)).trans (by rw [z_b_f (by omega)])
  have w423 : f_Mo_isWord 83 (423 : Int64) (z_h S I J P n) = some (z_n 0, z_h S I J P n) := (M_wd2 hS k (i := 14) (by omega)).trans (by rw [z_b_f (by omega)])
  by_cases q60 : k_is T p 60 = true
  · have h9 : I 109 d = z_n 1 := e9.resolve_right (fun q => by rw [q.1] at q60; cases q60)
    have s60 : f_Mo_isSign 83 (60 : Int32) (z_h S I J P n) = some (z_n 1, z_h S I J P n) := t60.trans (by rw [z_b_t q60])
    have s41 : f_Mo_isSign 83 (41 : Int32) (z_h S I J P n) = some (z_n 0, z_h S I J P n) := t41.trans (by rw [k_is_o q60 (by omega), z_b_f (by decide)])
    have s59 : f_Mo_isSign 83 (59 : Int32) (z_h S I J P n) = some (z_n 0, z_h S I J P n) := t59.trans (by rw [k_is_o q60 (by omega), z_b_f (by decide)])
    by_cases d0 : d = 0
    · subst d0
      rw [f_Mo_reads_L11, if_pos (show z_n 0 = (0 : Int32) from rfl), om, Option.bind_some, s43, z_sq, if_pos z00, om, Option.bind_some, s45, z_sq, if_pos z00, om, Option.bind_some, s42, z_sq, if_pos z00, om, Option.bind_some, s60, z_sq, if_neg n10, g41, Option.bind_some, r109 _ (by omega), Option.bind_some, h9, if_neg (show ¬ z_n 1 = (0 : Int32) by decide), om, Option.bind_some, w1111, z_sq, if_pos z00, om, Option.bind_some, w423, z_sq, if_pos z00, om, Option.bind_some, s41, z_sq, if_pos z00, if_pos (show z_n 0 = (0 : Int32) from rfl), om, Option.bind_some, s59, z_sq, if_pos z00, om, Option.bind_some, er1, z_sq, if_neg nn]
    · have dn : ¬ z_n d = (0 : Int32) := by rw [show (0 : Int32) = z_n 0 from rfl, z_eq (by omega) (by omega)]; exact d0
      rw [f_Mo_reads_L11, if_pos (show z_n 0 = (0 : Int32) from rfl), om, Option.bind_some, s43, z_sq, if_pos z00, om, Option.bind_some, s45, z_sq, if_pos z00, om, Option.bind_some, s42, z_sq, if_pos z00, om, Option.bind_some, s60, z_sq, if_neg n10, g41, Option.bind_some, r109 _ (by omega), Option.bind_some, h9, if_neg (show ¬ z_n 1 = (0 : Int32) by decide), om, Option.bind_some, w1111, z_sq, if_pos z00, om, Option.bind_some, w423, z_sq, if_pos z00, om, Option.bind_some, s41, z_sq, if_pos z00, if_neg dn, om, Option.bind_some, er1, z_sq, if_neg nn]
  have q60' : k_is T p 60 = false := Bool.eq_false_iff.mpr q60
  have s60 : f_Mo_isSign 83 (60 : Int32) (z_h S I J P n) = some (z_n 0, z_h S I J P n) := t60.trans (by rw [z_b_f q60])
  by_cases q61 : k_is T p 61 = true
  · have h9 : I 109 d = z_n 1 := e9.resolve_right (fun q => by rw [q.2] at q61; cases q61)
    have s61 : f_Mo_isSign 83 (61 : Int32) (z_h S I J P n) = some (z_n 1, z_h S I J P n) := t61.trans (by rw [z_b_t q61])
    have s41 : f_Mo_isSign 83 (41 : Int32) (z_h S I J P n) = some (z_n 0, z_h S I J P n) := t41.trans (by rw [k_is_o q61 (by omega), z_b_f (by decide)])
    have s59 : f_Mo_isSign 83 (59 : Int32) (z_h S I J P n) = some (z_n 0, z_h S I J P n) := t59.trans (by rw [k_is_o q61 (by omega), z_b_f (by decide)])
    by_cases d0 : d = 0
    · subst d0
      rw [f_Mo_reads_L11, if_pos (show z_n 0 = (0 : Int32) from rfl), om, Option.bind_some, s43, z_sq, if_pos z00, om, Option.bind_some, s45, z_sq, if_pos z00, om, Option.bind_some, s42, z_sq, if_pos z00, om, Option.bind_some, s60, z_sq, if_pos z00, om, Option.bind_some, s61, z_sq, if_neg n10, g41, Option.bind_some, r109 _ (by omega), Option.bind_some, h9, if_neg (show ¬ z_n 1 = (0 : Int32) by decide), om, Option.bind_some, w1111, z_sq, if_pos z00, om, Option.bind_some, w423, z_sq, if_pos z00, om, Option.bind_some, s41, z_sq, if_pos z00, if_pos (show z_n 0 = (0 : Int32) from rfl), om, Option.bind_some, s59, z_sq, if_pos z00, om, Option.bind_some, er1, z_sq, if_neg nn]
    · have dn : ¬ z_n d = (0 : Int32) := by rw [show (0 : Int32) = z_n 0 from rfl, z_eq (by omega) (by omega)]; exact d0
      rw [f_Mo_reads_L11, if_pos (show z_n 0 = (0 : Int32) from rfl), om, Option.bind_some, s43, z_sq, if_pos z00, om, Option.bind_some, s45, z_sq, if_pos z00, om, Option.bind_some, s42, z_sq, if_pos z00, om, Option.bind_some, s60, z_sq, if_pos z00, om, Option.bind_some, s61, z_sq, if_neg n10, g41, Option.bind_some, r109 _ (by omega), Option.bind_some, h9, if_neg (show ¬ z_n 1 = (0 : Int32) by decide), om, Option.bind_some, w1111, z_sq, if_pos z00, om, Option.bind_some, w423, z_sq, if_pos z00, om, Option.bind_some, s41, z_sq, if_pos z00, if_neg dn, om, Option.bind_some, er1, z_sq, if_neg nn]
  have s61 : f_Mo_isSign 83 (61 : Int32) (z_h S I J P n) = some (z_n 0, z_h S I J P n) := t61.trans (by rw [z_b_f q61])
  by_cases q41 : k_is T p 41 = true
  · have d0 : d = 0 := e41.resolve_right (fun q => by rw [q] at q41; cases q41)
    subst d0
    have s41 : f_Mo_isSign 83 (41 : Int32) (z_h S I J P n) = some (z_n 1, z_h S I J P n) := t41.trans (by rw [z_b_t q41])
    have s59 : f_Mo_isSign 83 (59 : Int32) (z_h S I J P n) = some (z_n 0, z_h S I J P n) := t59.trans (by rw [k_is_o q41 (by omega), z_b_f (by decide)])
    rw [f_Mo_reads_L11, if_pos (show z_n 0 = (0 : Int32) from rfl), om, Option.bind_some, s43, z_sq, if_pos z00, om, Option.bind_some, s45, z_sq, if_pos z00, om, Option.bind_some, s42, z_sq, if_pos z00, om, Option.bind_some, s60, z_sq, if_pos z00, om, Option.bind_some, s61, z_sq, if_pos z00, om, Option.bind_some, w1111, z_sq, if_pos z00, om, Option.bind_some, w423, z_sq, if_pos z00, om, Option.bind_some, s41, z_sq, if_neg n10, if_neg (show ¬ (0 : Int32) < z_n 0 by decide), if_pos (show z_n 0 = (0 : Int32) from rfl), om, Option.bind_some, s59, z_sq, if_pos z00, om, Option.bind_some, er1, z_sq, if_neg nn]
  have s41 : f_Mo_isSign 83 (41 : Int32) (z_h S I J P n) = some (z_n 0, z_h S I J P n) := t41.trans (by rw [z_b_f q41])
  by_cases d0 : d = 0
  · have q59 : k_is T p 59 = false := e59.resolve_left (fun q => q d0)
    subst d0
    have s59 : f_Mo_isSign 83 (59 : Int32) (z_h S I J P n) = some (z_n 0, z_h S I J P n) := t59.trans (by rw [q59, z_b_f (by decide)])
    rw [f_Mo_reads_L11, if_pos (show z_n 0 = (0 : Int32) from rfl), om, Option.bind_some, s43, z_sq, if_pos z00, om, Option.bind_some, s45, z_sq, if_pos z00, om, Option.bind_some, s42, z_sq, if_pos z00, om, Option.bind_some, s60, z_sq, if_pos z00, om, Option.bind_some, s61, z_sq, if_pos z00, om, Option.bind_some, w1111, z_sq, if_pos z00, om, Option.bind_some, w423, z_sq, if_pos z00, om, Option.bind_some, s41, z_sq, if_pos z00, if_pos (show z_n 0 = (0 : Int32) from rfl), om, Option.bind_some, s59, z_sq, if_pos z00, om, Option.bind_some, er1, z_sq, if_neg nn]
  · have dn : ¬ z_n d = (0 : Int32) := by rw [show (0 : Int32) = z_n 0 from rfl, z_eq (by omega) (by omega)]; exact d0
    rw [f_Mo_reads_L11, if_pos (show z_n 0 = (0 : Int32) from rfl), om, Option.bind_some, s43, z_sq, if_pos z00, om, Option.bind_some, s45, z_sq, if_pos z00, om, Option.bind_some, s42, z_sq, if_pos z00, om, Option.bind_some, s60, z_sq, if_pos z00, om, Option.bind_some, s61, z_sq, if_pos z00, om, Option.bind_some, w1111, z_sq, if_pos z00, om, Option.bind_some, w423, z_sq, if_pos z00, om, Option.bind_some, s41, z_sq, if_pos z00, if_neg dn, om, Option.bind_some, er1, z_sq, if_neg nn]
set_option maxRecDepth 100000 in
set_option maxHeartbeats 4000000 in
theorem P_num (hS : z_St S) (hP : z_Pt P) (hT : k_hd (I 83 18) (I 99) T) (hp : p ≤ T.1) (k : k_M T p I J) (h39 : I 83 39 = z_n (4000 + z)) (hz : z ≤ p) (hd : d ≤ 5) (d4 : d ≤ 4) (h2 : k_k T p = 2) {v : Nat} (hv : I 83 23 = z_n v) : ∃ X Z, (∀ m, f_Mo_reads_L11 83 (m + 1) (z_n d) (z_n 1) (z_h S I J P n) = f_Mo_reads_L11 83 m (z_n (y_pp (I 108) d)) (z_n 0) (z_h S X Z P n)) ∧ y_mf I J X Z ∧ k_M T (k_e T p) X Z ∧ y_me z [(100 + v)] I X ∧ (X 108 = I 108) ∧ (X 109 = I 109) := by
  have om := fun I J => z_ob (I := I) (J := J) (P := P) (n := n) (s_83 hS)
  have g40 : ∀ X J, q_gr (q_gf (z_h S X J P n) 12 83 40) = some 108 := fun _ _ => z_gr (s_83 hS) rfl (p_83_40 hP)
  have g41 : ∀ X J, q_gr (q_gf (z_h S X J P n) 12 83 41) = some 109 := fun _ _ => z_gr (s_83 hS) rfl (p_83_41 hP)
  have w108 : ∀ X J i v, i < 7 → q_sa (z_h S X J P n) 20 108 (z_n i) (.int v) = some (z_h S (z_up X 108 i v) J P n) := fun _ _ _ _ hi => z_sai (s_108 hS) (by decide) (by omega) (z_rpl hi)
  have w109 : ∀ X J i v, i < 7 → q_sa (z_h S X J P n) 22 109 (z_n i) (.int v) = some (z_h S (z_up X 109 i v) J P n) := fun _ _ _ _ hi => z_sai (s_109 hS) (by decide) (by omega) (z_rpl hi)
  have r109 : ∀ i, i < 7 → q_gi (q_ga (z_h S I J P n) 22 109 (z_n i)) = some (I 109 i) := fun i hi => z_gia (s_109 hS) (by omega) (z_rpl hi)
  have n10 : ¬ z_n 1 = (0 : Int32) := by decide
  have z00 : z_n 0 = (0 : Int32) := rfl
  have sg : ∀ c, c ≤ 126 → f_Mo_isSign 83 (z_n c) (z_h S I J P n) = some (z_b (k_is T p c = true), z_h S I J P n) := fun c hc => M_isSign hS hP hT hp k hc
  have er := M_errs (n := n) hS hP k
  have pu := fun (hl : z < 1000) x => M_puts (I := I) (J := J) (P := P) (n := n) hS hP (c := 4000 + z) (by omega) h39 x
  have er1 : f_Mo_errs 83 (1 : Int32) (z_h S I J P n) = some (z_n 0, z_h S (z_up I 83 24 (z_n (k_fl T 1 p))) J P n) := er 1
  have er5 : f_Mo_errs 83 (5 : Int32) (z_h S I J P n) = some (z_n 0, z_h S (z_up I 83 24 (z_n (k_fl T 5 p))) J P n) := er 5
  have nn : ¬ ¬ (z_n 0 = (0 : Int32) ∨ z_n 0 = (1 : Int32)) := by decide
  have r21 : q_gi (q_gf (z_h S I J P n) 12 83 21) = some (z_n (k_k T p)) := by rw [z_gi (s_83 hS) rfl, k.2.2.1]
  have k4 := @k_k4 T p
  have i18 := @k_i2_le T p
  have hk : ¬ k_k T p = 3 := by omega
  have hw : k_ix T k_w2 p = 18 := k_i2_s (by omega)
  have s40 : f_Mo_isSign 83 (40 : Int32) (z_h S I J P n) = some (z_n 0, z_h S I J P n) := (sg 40 (by omega)).trans (by rw [z_b_f (fun e => hk (k_is_k e).1)])
  have w10631 : f_Mo_isWord 83 (10631 : Int64) (z_h S I J P n) = some (z_n 0, z_h S I J P n) := (M_wd2 hS k (i := 15) (by omega)).trans (by rw [z_b_f (by omega)])
  have fa : f_Mo_fact 83 (z_h S I J P n) = some (z_n 0, z_h S I J P n) := (M_fact hS k).trans (by rw [if_neg (by omega)])
  have d5 : ¬ z_n d = (5 : Int32) := by rw [show (5 : Int32) = z_n 5 from rfl, z_eq (by omega) (by omega)]; omega
  have r23 : q_gi (q_gf (z_h S I J P n) 12 83 23) = some (z_n v) := by rw [z_gi (s_83 hS) rfl, hv]
  have hk0 : ¬ k_k T p = 0 := by omega
  have zl : z < 1000 := by have := hT.1; have := (k_end_p hp (show ¬ k_k T p = 0 by exact hk0)).1; omega
  obtain ⟨X, Z, a1, a2, a3, a4, a5, a6⟩ := M_pn (n := n) hS hP hT hp k (z := z) (x := (100 + v)) (Y := z_up (z_up I 107 (4000 + z) (z_n (100 + v))) 83 39 (z_n (4000 + z + 1))) (fun a q1 q2 q3 q4 => by simp only [z_ups q1, z_ups q2, z_ups q3, z_ups q4]) (fun i hi => by
    rw [z_up_i hi, z_ups (by omega)]) (by
    rw [z_up_s]) (by
    rw [z_ups (by omega), z_up_s]) (fun i hi => by
    rw [z_ups (by omega), z_up_i hi])
  refine ⟨X, Z, fun m => ?_, a2, a3, a4, a5.trans (by rw [z_ups (by omega), z_ups (by omega)]), a6.trans (by rw [z_ups (by omega), z_ups (by omega)])⟩
  rw [f_Mo_reads_L11, if_neg (show ¬ z_n 1 = (0 : Int32) by decide), om, Option.bind_some, fa, z_sq, om, Option.bind_some, w10631, z_sq, om, Option.bind_some, s40, z_sq, if_pos z00, if_pos z00, if_pos z00, r21, Option.bind_some, if_pos (show z_n (k_k T p) = (2 : Int32) by rw [h2]; rfl), if_neg d5, if_pos z00, if_pos z00, if_neg (show ¬ (0 : Int32) < z_n 0 by decide), r23, Option.bind_some, show (100 : Int32) + z_n v = z_n (100 + v) from z_n_add 100 v, z_sq, om, Option.bind_some, pu zl, z_sq, M_pop2 hS hP _ d q_FU (by omega) (by rw [z_FU]; omega), z_sq, z_sq, om, Option.bind_some, a1, z_sq, z_ups (show 108 ≠ 83 by omega), z_ups (show 108 ≠ 107 by omega)]
  rfl
set_option maxRecDepth 100000 in
set_option maxHeartbeats 4000000 in
theorem P_fact (hS : z_St S) (hP : z_Pt P) (hT : k_hd (I 83 18) (I 99) T) (hp : p ≤ T.1) (k : k_M T p I J) (h39 : I 83 39 = z_n (4000 + z)) (hz : z ≤ p) (hd : d ≤ 5) (d4 : d ≤ 4) (hi : k_ix T k_w2 p < 13) : ∃ X Z, (∀ m, f_Mo_reads_L11 83 (m + 1) (z_n d) (z_n 1) (z_h S I J P n) = f_Mo_reads_L11 83 m (z_n (y_pp (I 108) d)) (z_n 0) (z_h S X Z P n)) ∧ y_mf I J X Z ∧ k_M T (k_e T p) X Z ∧ y_me z [(k_ix T k_w2 p + 1)] I X ∧ (X 108 = I 108) ∧ (X 109 = I 109) := by
  have om := fun I J => z_ob (I := I) (J := J) (P := P) (n := n) (s_83 hS)
  have g40 : ∀ X J, q_gr (q_gf (z_h S X J P n) 12 83 40) = some 108 := fun _ _ => z_gr (s_83 hS) rfl (p_83_40 hP)
  have g41 : ∀ X J, q_gr (q_gf (z_h S X J P n) 12 83 41) = some 109 := fun _ _ => z_gr (s_83 hS) rfl (p_83_41 hP)
  have w108 : ∀ X J i v, i < 7 → q_sa (z_h S X J P n) 20 108 (z_n i) (.int v) = some (z_h S (z_up X 108 i v) J P n) := fun _ _ _ _ hi => z_sai (s_108 hS) (by decide) (by omega) (z_rpl hi)
  have w109 : ∀ X J i v, i < 7 → q_sa (z_h S X J P n) 22 109 (z_n i) (.int v) = some (z_h S (z_up X 109 i v) J P n) := fun _ _ _ _ hi => z_sai (s_109 hS) (by decide) (by omega) (z_rpl hi)
  have r109 : ∀ i, i < 7 → q_gi (q_ga (z_h S I J P n) 22 109 (z_n i)) = some (I 109 i) := fun i hi => z_gia (s_109 hS) (by omega) (z_rpl hi)
  have n10 : ¬ z_n 1 = (0 : Int32) := by decide
  have z00 : z_n 0 = (0 : Int32) := rfl
  have sg : ∀ c, c ≤ 126 → f_Mo_isSign 83 (z_n c) (z_h S I J P n) = some (z_b (k_is T p c = true), z_h S I J P n) := fun c hc => M_isSign hS hP hT hp k hc
  have er := M_errs (n := n) hS hP k
  have pu := fun (hl : z < 1000) x => M_puts (I := I) (J := J) (P := P) (n := n) hS hP (c := 4000 + z) (by omega) h39 x
  have er1 : f_Mo_errs 83 (1 : Int32) (z_h S I J P n) = some (z_n 0, z_h S (z_up I 83 24 (z_n (k_fl T 1 p))) J P n) := er 1
  have er5 : f_Mo_errs 83 (5 : Int32) (z_h S I J P n) = some (z_n 0, z_h S (z_up I 83 24 (z_n (k_fl T 5 p))) J P n) := er 5
  have nn : ¬ ¬ (z_n 0 = (0 : Int32) ∨ z_n 0 = (1 : Int32)) := by decide
  have r21 : q_gi (q_gf (z_h S I J P n) 12 83 21) = some (z_n (k_k T p)) := by rw [z_gi (s_83 hS) rfl, k.2.2.1]
  have k4 := @k_k4 T p
  have i18 := @k_i2_le T p
  have hw := k_i2_is (show k_ix T k_w2 p < 18 by omega)
  have hk : ¬ k_k T p = 3 := by rw [hw.1]; omega
  have s40 : f_Mo_isSign 83 (40 : Int32) (z_h S I J P n) = some (z_n 0, z_h S I J P n) := (sg 40 (by omega)).trans (by rw [z_b_f (fun e => hk (k_is_k e).1)])
  have w10631 : f_Mo_isWord 83 (10631 : Int64) (z_h S I J P n) = some (z_n 0, z_h S I J P n) := (M_wd2 hS k (i := 15) (by omega)).trans (by rw [z_b_f (by omega)])
  have fa : f_Mo_fact 83 (z_h S I J P n) = some (z_n (k_ix T k_w2 p + 1), z_h S I J P n) := (M_fact hS k).trans (by rw [if_pos hi])
  have d5 : ¬ z_n d = (5 : Int32) := by rw [show (5 : Int32) = z_n 5 from rfl, z_eq (by omega) (by omega)]; omega
  have hk0 : ¬ k_k T p = 0 := by rw [hw.1]; omega
  have lp : (0 : Int32) < z_n (k_ix T k_w2 p + 1) := by rw [show (0 : Int32) = z_n 0 from rfl, z_lt (by omega) (by omega)]; omega
  have np : ¬ z_n (k_ix T k_w2 p + 1) = (0 : Int32) := by rw [show (0 : Int32) = z_n 0 from rfl, z_eq (by omega) (by omega)]; omega
  have zl : z < 1000 := by have := hT.1; have := (k_end_p hp (show ¬ k_k T p = 0 by exact hk0)).1; omega
  obtain ⟨X, Z, a1, a2, a3, a4, a5, a6⟩ := M_pn (n := n) hS hP hT hp k (z := z) (x := (k_ix T k_w2 p + 1)) (Y := z_up (z_up I 107 (4000 + z) (z_n (k_ix T k_w2 p + 1))) 83 39 (z_n (4000 + z + 1))) (fun a q1 q2 q3 q4 => by simp only [z_ups q1, z_ups q2, z_ups q3, z_ups q4]) (fun i hi => by
    rw [z_up_i hi, z_ups (by omega)]) (by
    rw [z_up_s]) (by
    rw [z_ups (by omega), z_up_s]) (fun i hi => by
    rw [z_ups (by omega), z_up_i hi])
  refine ⟨X, Z, fun m => ?_, a2, a3, a4, a5.trans (by rw [z_ups (by omega), z_ups (by omega)]), a6.trans (by rw [z_ups (by omega), z_ups (by omega)])⟩
  rw [f_Mo_reads_L11, if_neg (show ¬ z_n 1 = (0 : Int32) by decide), om, Option.bind_some, fa, z_sq, om, Option.bind_some, w10631, z_sq, om, Option.bind_some, s40, z_sq, if_neg np, if_neg d5, if_pos z00, if_pos z00, if_pos lp, z_sq, om, Option.bind_some, pu zl, z_sq, M_pop2 hS hP _ d q_FU (by omega) (by rw [z_FU]; omega), z_sq, z_sq, om, Option.bind_some, a1, z_sq, z_ups (show 108 ≠ 83 by omega), z_ups (show 108 ≠ 107 by omega)]
  rfl
set_option maxRecDepth 100000 in
set_option maxHeartbeats 4000000 in
theorem P_not (hS : z_St S) (hP : z_Pt P) (hT : k_hd (I 83 18) (I 99) T) (hp : p ≤ T.1) (k : k_M T p I J) (h39 : I 83 39 = z_n (4000 + z)) (hz : z ≤ p) (hd : d ≤ 5) (d4 : d ≤ 4) (hw : k_ix T k_w2 p = 15) : ∃ X Z, (∀ m, f_Mo_reads_L11 83 (m + 1) (z_n d) (z_n 1) (z_h S I J P n) = f_Mo_reads_L11 83 m (z_n (d + 1)) (z_n 1) (z_h S X Z P n)) ∧ y_mf I J X Z ∧ k_M T (k_e T p) X Z ∧ y_me z [30] I X ∧ (∀ j, X 108 j = if j = d + 1 then z_n 1 else I 108 j) ∧ (∀ j, X 109 j = if j = d + 1 then z_n 0 else I 109 j) := by
  have om := fun I J => z_ob (I := I) (J := J) (P := P) (n := n) (s_83 hS)
  have g40 : ∀ X J, q_gr (q_gf (z_h S X J P n) 12 83 40) = some 108 := fun _ _ => z_gr (s_83 hS) rfl (p_83_40 hP)
  have g41 : ∀ X J, q_gr (q_gf (z_h S X J P n) 12 83 41) = some 109 := fun _ _ => z_gr (s_83 hS) rfl (p_83_41 hP)
  have w108 : ∀ X J i v, i < 7 → q_sa (z_h S X J P n) 20 108 (z_n i) (.int v) = some (z_h S (z_up X 108 i v) J P n) := fun _ _ _ _ hi => z_sai (s_108 hS) (by decide) (by omega) (z_rpl hi)
  have w109 : ∀ X J i v, i < 7 → q_sa (z_h S X J P n) 22 109 (z_n i) (.int v) = some (z_h S (z_up X 109 i v) J P n) := fun _ _ _ _ hi => z_sai (s_109 hS) (by decide) (by omega) (z_rpl hi)
  have r109 : ∀ i, i < 7 → q_gi (q_ga (z_h S I J P n) 22 109 (z_n i)) = some (I 109 i) := fun i hi => z_gia (s_109 hS) (by omega) (z_rpl hi)
  have n10 : ¬ z_n 1 = (0 : Int32) := by decide
  have z00 : z_n 0 = (0 : Int32) := rfl
  have sg : ∀ c, c ≤ 126 → f_Mo_isSign 83 (z_n c) (z_h S I J P n) = some (z_b (k_is T p c = true), z_h S I J P n) := fun c hc => M_isSign hS hP hT hp k hc
  have er := M_errs (n := n) hS hP k
  have pu := fun (hl : z < 1000) x => M_puts (I := I) (J := J) (P := P) (n := n) hS hP (c := 4000 + z) (by omega) h39 x
  have er1 : f_Mo_errs 83 (1 : Int32) (z_h S I J P n) = some (z_n 0, z_h S (z_up I 83 24 (z_n (k_fl T 1 p))) J P n) := er 1
  have er5 : f_Mo_errs 83 (5 : Int32) (z_h S I J P n) = some (z_n 0, z_h S (z_up I 83 24 (z_n (k_fl T 5 p))) J P n) := er 5
  have nn : ¬ ¬ (z_n 0 = (0 : Int32) ∨ z_n 0 = (1 : Int32)) := by decide
  have r21 : q_gi (q_gf (z_h S I J P n) 12 83 21) = some (z_n (k_k T p)) := by rw [z_gi (s_83 hS) rfl, k.2.2.1]
  have k4 := @k_k4 T p
  have i18 := @k_i2_le T p
  have hk : ¬ k_k T p = 3 := by rw [(k_i2_is (show k_ix T k_w2 p < 18 by omega)).1]; omega
  have s40 : f_Mo_isSign 83 (40 : Int32) (z_h S I J P n) = some (z_n 0, z_h S I J P n) := (sg 40 (by omega)).trans (by rw [z_b_f (fun e => hk (k_is_k e).1)])
  have w10631 : f_Mo_isWord 83 (10631 : Int64) (z_h S I J P n) = some (z_n 1, z_h S I J P n) := (M_wd2 hS k (i := 15) (by omega)).trans (by rw [z_b_t hw])
  have fa : f_Mo_fact 83 (z_h S I J P n) = some (z_n 0, z_h S I J P n) := (M_fact hS k).trans (by rw [if_neg (by omega)])
  have d5 : ¬ z_n d = (5 : Int32) := by rw [show (5 : Int32) = z_n 5 from rfl, z_eq (by omega) (by omega)]; omega
  have zl : z < 1000 := by have := hT.1; have := (k_end_p hp (show ¬ k_k T p = 0 by rw [(k_i2_is (show k_ix T k_w2 p < 18 by omega)).1]; omega)).1; omega
  obtain ⟨X, Z, a1, a2, a3, a4, a5, a6⟩ := M_pn (n := n) hS hP hT hp k (z := z) (x := 30) (Y := z_up (z_up (z_up (z_up I 107 (4000 + z) (z_n 30)) 83 39 (z_n (4000 + z + 1))) 108 (d + 1) (z_n 1)) 109 (d + 1) (z_n 0)) (fun a q1 q2 q3 q4 => by simp only [z_ups q1, z_ups q2, z_ups q3, z_ups q4]) (fun i hi => by
    rw [z_ups (by omega), z_ups (by omega), z_up_i hi, z_ups (by omega)]) (by
    rw [z_ups (by omega), z_ups (by omega), z_up_s]) (by
    rw [z_ups (by omega), z_ups (by omega), z_ups (by omega), z_up_s]) (fun i hi => by
    rw [z_ups (by omega), z_ups (by omega), z_ups (by omega), z_up_i hi])
  refine ⟨X, Z, fun m => ?_, a2, a3, a4, fun j => by rw [a5, z_ups (by omega), z_up_e, z_ups (by omega), z_ups (by omega)], fun j => by rw [a6, z_up_e, z_ups (by omega), z_ups (by omega), z_ups (by omega)]⟩
  rw [f_Mo_reads_L11, if_neg (show ¬ z_n 1 = (0 : Int32) by decide), om, Option.bind_some, fa, z_sq, om, Option.bind_some, w10631, z_sq, om, Option.bind_some, s40, z_sq, if_pos z00, if_neg n10, if_neg d5, if_neg n10, if_neg n10, z_sq, om, Option.bind_some, pu zl, z_sq, g40, Option.bind_some, if_neg n10, z_sq, show z_n d + (1 : Int32) = z_n (d + 1) from z_n_add d 1, w108 _ _ _ _ (show d + 1 < 7 by omega), Option.bind_some, g41, Option.bind_some, w109 _ _ _ _ (show d + 1 < 7 by omega), Option.bind_some, om, Option.bind_some, show (30 : Int32) = z_n 30 from rfl, show (1 : Int32) = z_n 1 from rfl, show (0 : Int32) = z_n 0 from rfl, a1, z_sq]
set_option maxRecDepth 100000 in
set_option maxHeartbeats 4000000 in
theorem P_open (hS : z_St S) (hP : z_Pt P) (hT : k_hd (I 83 18) (I 99) T) (hp : p ≤ T.1) (k : k_M T p I J) (h39 : I 83 39 = z_n (4000 + z)) (hz : z ≤ p) (hd : d ≤ 5) (d4 : d ≤ 4) (h : k_is T p 40 = true) : ∃ X Z, (∀ m, f_Mo_reads_L11 83 (m + 1) (z_n d) (z_n 1) (z_h S I J P n) = f_Mo_reads_L11 83 m (z_n (d + 1)) (z_n 1) (z_h S X Z P n)) ∧ y_mf I J X Z ∧ k_M T (k_e T p) X Z ∧ y_me z [28] I X ∧ (∀ j, X 108 j = if j = d + 1 then z_n 2 else I 108 j) ∧ (∀ j, X 109 j = if j = d + 1 then z_n 0 else I 109 j) := by
  have om := fun I J => z_ob (I := I) (J := J) (P := P) (n := n) (s_83 hS)
  have g40 : ∀ X J, q_gr (q_gf (z_h S X J P n) 12 83 40) = some 108 := fun _ _ => z_gr (s_83 hS) rfl (p_83_40 hP)
  have g41 : ∀ X J, q_gr (q_gf (z_h S X J P n) 12 83 41) = some 109 := fun _ _ => z_gr (s_83 hS) rfl (p_83_41 hP)
  have w108 : ∀ X J i v, i < 7 → q_sa (z_h S X J P n) 20 108 (z_n i) (.int v) = some (z_h S (z_up X 108 i v) J P n) := fun _ _ _ _ hi => z_sai (s_108 hS) (by decide) (by omega) (z_rpl hi)
  have w109 : ∀ X J i v, i < 7 → q_sa (z_h S X J P n) 22 109 (z_n i) (.int v) = some (z_h S (z_up X 109 i v) J P n) := fun _ _ _ _ hi => z_sai (s_109 hS) (by decide) (by omega) (z_rpl hi)
  have r109 : ∀ i, i < 7 → q_gi (q_ga (z_h S I J P n) 22 109 (z_n i)) = some (I 109 i) := fun i hi => z_gia (s_109 hS) (by omega) (z_rpl hi)
  have n10 : ¬ z_n 1 = (0 : Int32) := by decide
  have z00 : z_n 0 = (0 : Int32) := rfl
  have sg : ∀ c, c ≤ 126 → f_Mo_isSign 83 (z_n c) (z_h S I J P n) = some (z_b (k_is T p c = true), z_h S I J P n) := fun c hc => M_isSign hS hP hT hp k hc
  have er := M_errs (n := n) hS hP k
  have pu := fun (hl : z < 1000) x => M_puts (I := I) (J := J) (P := P) (n := n) hS hP (c := 4000 + z) (by omega) h39 x
  have er1 : f_Mo_errs 83 (1 : Int32) (z_h S I J P n) = some (z_n 0, z_h S (z_up I 83 24 (z_n (k_fl T 1 p))) J P n) := er 1
  have er5 : f_Mo_errs 83 (5 : Int32) (z_h S I J P n) = some (z_n 0, z_h S (z_up I 83 24 (z_n (k_fl T 5 p))) J P n) := er 5
  have nn : ¬ ¬ (z_n 0 = (0 : Int32) ∨ z_n 0 = (1 : Int32)) := by decide
  have r21 : q_gi (q_gf (z_h S I J P n) 12 83 21) = some (z_n (k_k T p)) := by rw [z_gi (s_83 hS) rfl, k.2.2.1]
  have k4 := @k_k4 T p
  have i18 := @k_i2_le T p
  have hw : k_ix T k_w2 p = 18 := k_i2_s (by rw [(k_is_k h).1]; omega)
  have s40 : f_Mo_isSign 83 (40 : Int32) (z_h S I J P n) = some (z_n 1, z_h S I J P n) := (sg 40 (by omega)).trans (by rw [z_b_t h])
  have w10631 : f_Mo_isWord 83 (10631 : Int64) (z_h S I J P n) = some (z_n 0, z_h S I J P n) := (M_wd2 hS k (i := 15) (by omega)).trans (by rw [z_b_f (by omega)])
  have fa : f_Mo_fact 83 (z_h S I J P n) = some (z_n 0, z_h S I J P n) := (M_fact hS k).trans (by rw [if_neg (by omega)])
  have d5 : ¬ z_n d = (5 : Int32) := by rw [show (5 : Int32) = z_n 5 from rfl, z_eq (by omega) (by omega)]; omega
  have zl : z < 1000 := by have := hT.1; have := (k_end_p hp (show ¬ k_k T p = 0 by rw [(k_is_k h).1]; omega)).1; omega
  obtain ⟨X, Z, a1, a2, a3, a4, a5, a6⟩ := M_pn (n := n) hS hP hT hp k (z := z) (x := 28) (Y := z_up (z_up (z_up (z_up I 107 (4000 + z) (z_n 28)) 83 39 (z_n (4000 + z + 1))) 108 (d + 1) (z_n 2)) 109 (d + 1) (z_n 0)) (fun a q1 q2 q3 q4 => by simp only [z_ups q1, z_ups q2, z_ups q3, z_ups q4]) (fun i hi => by
    rw [z_ups (by omega), z_ups (by omega), z_up_i hi, z_ups (by omega)]) (by
    rw [z_ups (by omega), z_ups (by omega), z_up_s]) (by
    rw [z_ups (by omega), z_ups (by omega), z_ups (by omega), z_up_s]) (fun i hi => by
    rw [z_ups (by omega), z_ups (by omega), z_ups (by omega), z_up_i hi])
  refine ⟨X, Z, fun m => ?_, a2, a3, a4, fun j => by rw [a5, z_ups (by omega), z_up_e, z_ups (by omega), z_ups (by omega)], fun j => by rw [a6, z_up_e, z_ups (by omega), z_ups (by omega), z_ups (by omega)]⟩
  rw [f_Mo_reads_L11, if_neg (show ¬ z_n 1 = (0 : Int32) by decide), om, Option.bind_some, fa, z_sq, om, Option.bind_some, w10631, z_sq, om, Option.bind_some, s40, z_sq, if_pos z00, if_pos z00, if_neg n10, if_neg d5, if_pos z00, if_neg n10, if_pos z00, z_sq, om, Option.bind_some, pu zl, z_sq, g40, Option.bind_some, if_pos z00, show z_n d + (1 : Int32) = z_n (d + 1) from z_n_add d 1, w108 _ _ _ _ (show d + 1 < 7 by omega), Option.bind_some, g41, Option.bind_some, w109 _ _ _ _ (show d + 1 < 7 by omega), Option.bind_some, z_sq, om, Option.bind_some, show (28 : Int32) = z_n 28 from rfl, show (2 : Int32) = z_n 2 from rfl, show (0 : Int32) = z_n 0 from rfl, a1, z_sq]
set_option maxRecDepth 100000 in
set_option maxHeartbeats 4000000 in
theorem P_err1 (hS : z_St S) (hP : z_Pt P) (hT : k_hd (I 83 18) (I 99) T) (hp : p ≤ T.1) (k : k_M T p I J) (h39 : I 83 39 = z_n (4000 + z)) (hz : z ≤ p) (hd : d ≤ 5) (e40 : k_is T p 40 = false) (e2 : ¬ k_k T p = 2) (e13 : ¬ k_ix T k_w2 p < 13) (e15 : ¬ k_ix T k_w2 p = 15) (m : Nat) : f_Mo_reads_L11 83 (m + 1) (z_n d) (z_n 1) (z_h S I J P n) = some (z_n 0, z_h S (z_up I 83 24 (z_n (k_fl T 1 p))) J P n) := by
  have om := fun I J => z_ob (I := I) (J := J) (P := P) (n := n) (s_83 hS)
  have g40 : ∀ X J, q_gr (q_gf (z_h S X J P n) 12 83 40) = some 108 := fun _ _ => z_gr (s_83 hS) rfl (p_83_40 hP)
  have g41 : ∀ X J, q_gr (q_gf (z_h S X J P n) 12 83 41) = some 109 := fun _ _ => z_gr (s_83 hS) rfl (p_83_41 hP)
  have w108 : ∀ X J i v, i < 7 → q_sa (z_h S X J P n) 20 108 (z_n i) (.int v) = some (z_h S (z_up X 108 i v) J P n) := fun _ _ _ _ hi => z_sai (s_108 hS) (by decide) (by omega) (z_rpl hi)
  have w109 : ∀ X J i v, i < 7 → q_sa (z_h S X J P n) 22 109 (z_n i) (.int v) = some (z_h S (z_up X 109 i v) J P n) := fun _ _ _ _ hi => z_sai (s_109 hS) (by decide) (by omega) (z_rpl hi)
  have r109 : ∀ i, i < 7 → q_gi (q_ga (z_h S I J P n) 22 109 (z_n i)) = some (I 109 i) := fun i hi => z_gia (s_109 hS) (by omega) (z_rpl hi)
  have n10 : ¬ z_n 1 = (0 : Int32) := by decide
  have z00 : z_n 0 = (0 : Int32) := rfl
  have sg : ∀ c, c ≤ 126 → f_Mo_isSign 83 (z_n c) (z_h S I J P n) = some (z_b (k_is T p c = true), z_h S I J P n) := fun c hc => M_isSign hS hP hT hp k hc
  have er := M_errs (n := n) hS hP k
  have pu := fun (hl : z < 1000) x => M_puts (I := I) (J := J) (P := P) (n := n) hS hP (c := 4000 + z) (by omega) h39 x
  have er1 : f_Mo_errs 83 (1 : Int32) (z_h S I J P n) = some (z_n 0, z_h S (z_up I 83 24 (z_n (k_fl T 1 p))) J P n) := er 1
  have er5 : f_Mo_errs 83 (5 : Int32) (z_h S I J P n) = some (z_n 0, z_h S (z_up I 83 24 (z_n (k_fl T 5 p))) J P n) := er 5
  have nn : ¬ ¬ (z_n 0 = (0 : Int32) ∨ z_n 0 = (1 : Int32)) := by decide
  have r21 : q_gi (q_gf (z_h S I J P n) 12 83 21) = some (z_n (k_k T p)) := by rw [z_gi (s_83 hS) rfl, k.2.2.1]
  have k4 := @k_k4 T p
  have i18 := @k_i2_le T p
  have s40 : f_Mo_isSign 83 (40 : Int32) (z_h S I J P n) = some (z_n 0, z_h S I J P n) := (sg 40 (by omega)).trans (by rw [e40, z_b_f (by decide)])
  have w10631 : f_Mo_isWord 83 (10631 : Int64) (z_h S I J P n) = some (z_n 0, z_h S I J P n) := (M_wd2 hS k (i := 15) (by omega)).trans (by rw [z_b_f (by omega)])
  have fa : f_Mo_fact 83 (z_h S I J P n) = some (z_n 0, z_h S I J P n) := (M_fact hS k).trans (by rw [if_neg (by omega)])
  rw [f_Mo_reads_L11, if_neg (show ¬ z_n 1 = (0 : Int32) by decide), om, Option.bind_some, fa, z_sq, om, Option.bind_some, w10631, z_sq, om, Option.bind_some, s40, z_sq, if_pos z00, if_pos z00, if_pos z00, r21, Option.bind_some, if_neg (show ¬ z_n (k_k T p) = (2 : Int32) by rw [show (2 : Int32) = z_n 2 from rfl, z_eq (by omega) (by omega)]; exact e2), om, Option.bind_some, er1, z_sq, if_neg nn]
set_option maxRecDepth 100000 in
set_option maxHeartbeats 4000000 in
theorem P_err5 (hS : z_St S) (hP : z_Pt P) (hT : k_hd (I 83 18) (I 99) T) (hp : p ≤ T.1) (k : k_M T p I J) (h39 : I 83 39 = z_n (4000 + z)) (hz : z ≤ p) (hd : d ≤ 5) (st : k_ix T k_w2 p < 13 ∨ k_ix T k_w2 p = 15 ∨ k_is T p 40 = true ∨ k_k T p = 2) (m : Nat) : f_Mo_reads_L11 83 (m + 1) (z_n 5) (z_n 1) (z_h S I J P n) = some (z_n 0, z_h S (z_up I 83 24 (z_n (k_fl T 5 p))) J P n) := by
  have om := fun I J => z_ob (I := I) (J := J) (P := P) (n := n) (s_83 hS)
  have g40 : ∀ X J, q_gr (q_gf (z_h S X J P n) 12 83 40) = some 108 := fun _ _ => z_gr (s_83 hS) rfl (p_83_40 hP)
  have g41 : ∀ X J, q_gr (q_gf (z_h S X J P n) 12 83 41) = some 109 := fun _ _ => z_gr (s_83 hS) rfl (p_83_41 hP)
  have w108 : ∀ X J i v, i < 7 → q_sa (z_h S X J P n) 20 108 (z_n i) (.int v) = some (z_h S (z_up X 108 i v) J P n) := fun _ _ _ _ hi => z_sai (s_108 hS) (by decide) (by omega) (z_rpl hi)
  have w109 : ∀ X J i v, i < 7 → q_sa (z_h S X J P n) 22 109 (z_n i) (.int v) = some (z_h S (z_up X 109 i v) J P n) := fun _ _ _ _ hi => z_sai (s_109 hS) (by decide) (by omega) (z_rpl hi)
  have r109 : ∀ i, i < 7 → q_gi (q_ga (z_h S I J P n) 22 109 (z_n i)) = some (I 109 i) := fun i hi => z_gia (s_109 hS) (by omega) (z_rpl hi)
  have n10 : ¬ z_n 1 = (0 : Int32) := by decide
  have z00 : z_n 0 = (0 : Int32) := rfl
  have sg : ∀ c, c ≤ 126 → f_Mo_isSign 83 (z_n c) (z_h S I J P n) = some (z_b (k_is T p c = true), z_h S I J P n) := fun c hc => M_isSign hS hP hT hp k hc
  have er := M_errs (n := n) hS hP k
  have pu := fun (hl : z < 1000) x => M_puts (I := I) (J := J) (P := P) (n := n) hS hP (c := 4000 + z) (by omega) h39 x
  have er1 : f_Mo_errs 83 (1 : Int32) (z_h S I J P n) = some (z_n 0, z_h S (z_up I 83 24 (z_n (k_fl T 1 p))) J P n) := er 1
  have er5 : f_Mo_errs 83 (5 : Int32) (z_h S I J P n) = some (z_n 0, z_h S (z_up I 83 24 (z_n (k_fl T 5 p))) J P n) := er 5
  have nn : ¬ ¬ (z_n 0 = (0 : Int32) ∨ z_n 0 = (1 : Int32)) := by decide
  have r21 : q_gi (q_gf (z_h S I J P n) 12 83 21) = some (z_n (k_k T p)) := by rw [z_gi (s_83 hS) rfl, k.2.2.1]
  have k4 := @k_k4 T p
  have i18 := @k_i2_le T p
  by_cases hi : k_ix T k_w2 p < 13
  · have hw := k_i2_is (show k_ix T k_w2 p < 18 by omega)
    have hk : ¬ k_k T p = 3 := by rw [hw.1]; omega
    have np : ¬ z_n (k_ix T k_w2 p + 1) = (0 : Int32) := by rw [show (0 : Int32) = z_n 0 from rfl, z_eq (by omega) (by omega)]; omega
    have s40 : f_Mo_isSign 83 (40 : Int32) (z_h S I J P n) = some (z_n 0, z_h S I J P n) := (sg 40 (by omega)).trans (by rw [z_b_f (fun e => hk (k_is_k e).1)])
    have w10631 : f_Mo_isWord 83 (10631 : Int64) (z_h S I J P n) = some (z_n 0, z_h S I J P n) := (M_wd2 hS k (i := 15) (by omega)).trans (by rw [z_b_f (by omega)])
    have fa : f_Mo_fact 83 (z_h S I J P n) = some (z_n (k_ix T k_w2 p + 1), z_h S I J P n) := (M_fact hS k).trans (by rw [if_pos hi])
    rw [f_Mo_reads_L11, if_neg (show ¬ z_n 1 = (0 : Int32) by decide), om, Option.bind_some, fa, z_sq, om, Option.bind_some, w10631, z_sq, om, Option.bind_some, s40, z_sq, if_neg np, if_pos (show z_n 5 = (5 : Int32) from rfl), om, Option.bind_some, er5, z_sq, if_neg nn]
  by_cases hw : k_ix T k_w2 p = 15
  · have hk : ¬ k_k T p = 3 := by rw [(k_i2_is (show k_ix T k_w2 p < 18 by omega)).1]; omega
    have s40 : f_Mo_isSign 83 (40 : Int32) (z_h S I J P n) = some (z_n 0, z_h S I J P n) := (sg 40 (by omega)).trans (by rw [z_b_f (fun e => hk (k_is_k e).1)])
    have w10631 : f_Mo_isWord 83 (10631 : Int64) (z_h S I J P n) = some (z_n 1, z_h S I J P n) := (M_wd2 hS k (i := 15) (by omega)).trans (by rw [z_b_t hw])
    have fa : f_Mo_fact 83 (z_h S I J P n) = some (z_n 0, z_h S I J P n) := (M_fact hS k).trans (by rw [if_neg (by omega)])
    rw [f_Mo_reads_L11, if_neg (show ¬ z_n 1 = (0 : Int32) by decide), om, Option.bind_some, fa, z_sq, om, Option.bind_some, w10631, z_sq, om, Option.bind_some, s40, z_sq, if_pos z00, if_neg n10, if_pos (show z_n 5 = (5 : Int32) from rfl), om, Option.bind_some, er5, z_sq, if_neg nn]
  by_cases h : k_is T p 40 = true
  · have hw : k_ix T k_w2 p = 18 := k_i2_s (by rw [(k_is_k h).1]; omega)
    have s40 : f_Mo_isSign 83 (40 : Int32) (z_h S I J P n) = some (z_n 1, z_h S I J P n) := (sg 40 (by omega)).trans (by rw [z_b_t h])
    have w10631 : f_Mo_isWord 83 (10631 : Int64) (z_h S I J P n) = some (z_n 0, z_h S I J P n) := (M_wd2 hS k (i := 15) (by omega)).trans (by rw [z_b_f (by omega)])
    have fa : f_Mo_fact 83 (z_h S I J P n) = some (z_n 0, z_h S I J P n) := (M_fact hS k).trans (by rw [if_neg (by omega)])
    rw [f_Mo_reads_L11, if_neg (show ¬ z_n 1 = (0 : Int32) by decide), om, Option.bind_some, fa, z_sq, om, Option.bind_some, w10631, z_sq, om, Option.bind_some, s40, z_sq, if_pos z00, if_pos z00, if_neg n10, if_pos (show z_n 5 = (5 : Int32) from rfl), om, Option.bind_some, er5, z_sq, if_neg nn]
  have h2 : k_k T p = 2 := by
    rcases st with q | q | q | q
    · exact absurd q hi
    · exact absurd q hw
    · exact absurd q h
    · exact q
  have hw : k_ix T k_w2 p = 18 := k_i2_s (by omega)
  have hk : ¬ k_k T p = 3 := by omega
  have s40 : f_Mo_isSign 83 (40 : Int32) (z_h S I J P n) = some (z_n 0, z_h S I J P n) := (sg 40 (by omega)).trans (by rw [z_b_f (fun e => hk (k_is_k e).1)])
  have w10631 : f_Mo_isWord 83 (10631 : Int64) (z_h S I J P n) = some (z_n 0, z_h S I J P n) := (M_wd2 hS k (i := 15) (by omega)).trans (by rw [z_b_f (by omega)])
  have fa : f_Mo_fact 83 (z_h S I J P n) = some (z_n 0, z_h S I J P n) := (M_fact hS k).trans (by rw [if_neg (by omega)])
  rw [f_Mo_reads_L11, if_neg (show ¬ z_n 1 = (0 : Int32) by decide), om, Option.bind_some, fa, z_sq, om, Option.bind_some, w10631, z_sq, om, Option.bind_some, s40, z_sq, if_pos z00, if_pos z00, if_pos z00, r21, Option.bind_some, if_pos (show z_n (k_k T p) = (2 : Int32) by rw [h2]; rfl), if_pos (show z_n 5 = (5 : Int32) from rfl), om, Option.bind_some, er5, z_sq, if_neg nn]
end
