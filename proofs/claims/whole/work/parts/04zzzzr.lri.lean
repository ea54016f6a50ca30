/-! LAW: a line read. -/
section
variable {T : k_T} {r c p : Nat}
set_option maxRecDepth 100000 in
set_option maxHeartbeats 4000000 in
theorem y_line (hT : T.1 ≤ 1000) (hp : p ≤ T.1) (h : k_ix T k_w2 p = 16) : ∃ O, y_GLn T p O ∧ y_CLn T r c p O ∧ y_RLn T p O := by
  have kk := k_i2_is (show k_ix T k_w2 p < 18 by omega)
  obtain ⟨kp1, kp2, kp3⟩ := k_end_p hp (show ¬ k_k T p = 0 by rw [kk.1]; omega)
  by_cases h1 : k_ix T k_w2 (k_e T p) = 17
  · have kk1 := k_i2_is (show k_ix T k_w2 (k_e T p) < 18 by omega)
    obtain ⟨kq1, kq2, kq3⟩ := k_end_p kp3 (show ¬ k_k T (k_e T p) = 0 by rw [kk1.1]; omega)
    obtain ⟨O, g, hc, hm⟩ := y_whole (r := r) (c := c) hT kq3
    have hm : y_R T 4 1 0 0 (k_e T (k_e T p)) O := hm
    -- the class, up to the E
    have cls : ∀ (S : z_SH) (I : z_MI) (J : z_MJ) (P : z_MP) (n : Nat × Nat), z_St S → z_Pt P → y_cl S P r c T → y_st I J T → k_C T p I J → ∃ X Z, f_Lr_parseLawLine r (z_h S I J P n) = (q_sq (f_Lr_parseWhole (f_Lr_parsePart q_FD) r (z_n 0) (z_h S X Z P n)) fun x17 σ16 => if x17 = (0 : Int32) then ((q_ob σ16 11 r).bind fun w19 => q_sq (f_Lr_emit r (20000 : Int32) σ16) fun (_ : Unit) σ20 => (q_gr (q_gf σ20 11 r 0)).bind fun x22 => (q_ob σ20 1 x22).bind fun w23 => q_sq (f_Ta_isSign x22 (59 : Int32) σ20) fun x25 σ24 => if x25 = (0 : Int32) then ((q_gr (q_gf σ24 11 r 0)).bind fun x27 => (q_ob σ24 1 x27).bind fun w28 => q_sq (f_Ta_fault x27 (1 : Int32) σ24) fun x30 σ29 => some (x30, σ29)) else (some ((0 : Int32), σ24))) else (some (x17, σ16))) ∧ y_cf r c I J X Z ∧ (∀ a, a ≠ 9 → X a = I a) ∧ k_C T (k_e T (k_e T p)) X Z := by
      intro S I J P n hS hP b s kC
      obtain ⟨X, Z, a1, a2, a3, a4⟩ := C_next (n := n) hS hP b s hp kC
      obtain ⟨Y, W, b1, b2, b3, b4⟩ := C_next (n := n) hS hP b (b.st a2 s) kp3 a4
      refine ⟨Y, W, ?_, a2.trans b2, fun a ha => (b3 a ha).trans (a3 a ha), b4⟩
      unfold f_Lr_parseLawLine
      rw [z_gr b.1 rfl b.2.1, Option.bind_some, z_ob (s_9 hS), Option.bind_some, a1, z_sq, z_gr b.1 rfl b.2.1, Option.bind_some, z_gr b.1 rfl b.2.2.1, Option.bind_some, z_ob (s_9 hS), Option.bind_some, C_word hS hP (b.st a2 s) a4, z_sq, show (17 : Int32) = z_n 17 from rfl, if_pos ((y_xw (by omega)).mpr h1), z_gr b.1 rfl b.2.1, Option.bind_some, z_ob (s_9 hS), Option.bind_some, b1, z_sq, z_ob b.1, Option.bind_some]
      rfl
    -- the reference, up to the E
    have ref : ∀ (S : z_SH) (I : z_MI) (J : z_MJ) (P : z_MP) (n : Nat × Nat) (z j : Nat), z_St S → z_Pt P → k_hd (I 83 18) (I 99) T → k_M T p I J → I 83 39 = z_n (4000 + z) → z ≤ p → I 104 4 = z_n j → j < 6 → ∃ X Z, (∀ m, f_Mo_readsLaw_L14 83 (m + 1) (z_h S I J P n) = q_sq (q_sq (f_Mo_reads_L11 83 q_FU (z_n 0) (z_n 1) (z_h S X Z P n)) fun r5 σ4 => some (r5, σ4)) fun x36 σ35 => if x36 = (0 : Int32) then (some ((.inl (0 : Int32)), σ35)) else ((q_gr (q_gf σ35 12 83 37)).bind fun x38 => (q_gr (q_gf σ35 12 83 35)).bind fun x39 => (q_gi (q_ga σ35 20 x39 (4 : Int32))).bind fun x40 => (q_gi (q_gf σ35 12 83 39)).bind fun x41 => (q_sa σ35 20 x38 ((24 : Int32) + x40) (.int x41)).bind fun σ42 => (q_gr (q_gf σ42 12 83 35)).bind fun x43 => (q_gi (q_ga σ42 20 x43 (4 : Int32))).bind fun x44 => (q_sa σ42 20 x43 (4 : Int32) (.int (x44 + (1 : Int32)))).bind fun σ45 => f_Mo_readsLaw_L14 83 m σ45)) ∧ y_lf j I J X Z ∧ k_M T (k_e T (k_e T p)) X Z ∧ X 83 39 = z_n (4000 + z) ∧ X 104 = I 104 ∧ X 106 = I 106 ∧ X 107 = I 107 ∧ X 105 (24 + j) = z_n (4000 + z) ∧ X 109 0 = z_n 0 ∧ k_hd (X 83 18) (X 99) T := by
      intro S I J P n z j hS hP hT' kM h39 zp hj j6
      obtain ⟨X, Z, a1, a2, a3, a4, a5, a6⟩ := M_lawHead (n := n) hS hP hT' hp kM h h1 h39 hj j6
      have g41 : q_gr (q_gf (z_h S X Z P n) 12 83 41) = some 109 := z_gr (s_83 hS) rfl (p_83_41 hP)
      have w109 : ∀ v, q_sa (z_h S X Z P n) 22 109 (z_n 0) (.int v) = some (z_h S (z_up X 109 0 v) Z P n) := fun _ => z_sai (s_109 hS) (by decide) (by omega) (z_rpl (by omega))
      have a18 : X 83 18 = I 83 18 := a1.2.1 18 (by unfold k_5; omega) (by omega)
      refine ⟨z_up X 109 0 (z_n 0), Z, fun m => ?_, ⟨fun a h1 h2 => by rw [z_ups (by omega)]; exact a4 a h1 (by omega), fun i h1 h2 => by rw [z_ups (by omega)]; exact a1.2.1 i h1 h2, a1.2.2.1, a1.2.2.2.1, fun i hi => by rw [z_ups (by omega), a4 107 (by omega) (by omega)], fun i hi => by rw [z_ups (by omega), a4 104 (by omega) (by omega)], fun i hi => ⟨by rw [z_ups (by omega), a5, if_neg (by omega)], by rw [z_ups (by omega), a4 106 (by omega) (by omega)]⟩⟩, by unfold k_M; rw [z_ups (by omega)]; exact a2, by rw [z_ups (by omega)]; exact a3, by rw [z_ups (by omega), a4 104 (by omega) (by omega)], by rw [z_ups (by omega), a4 106 (by omega) (by omega)], by rw [z_ups (by omega), a4 107 (by omega) (by omega)], by rw [z_ups (by omega), a5, if_pos rfl], z_up_s _ _ _ _, by rw [z_ups (by omega), z_ups (by omega), a18, a4 99 (by omega) (by omega)]; exact hT'⟩
      rw [a6]
      unfold f_Mo_reads
      rw [g41, Option.bind_some, show (0 : Int32) = z_n 0 from rfl, w109, Option.bind_some]
      rfl
    rcases O with F | ⟨p3, cc, rc, w, cm⟩
    · have g : 0 < F ∧ F < 20000 := g
      refine ⟨.inl F, g, ?_, ?_⟩
      · intro S I J P n z hS hP b s kC hz zp
        obtain ⟨X, Z, a1, a2, a3, a4⟩ := cls S I J P n hS hP b s kC
        obtain ⟨Y, W, b1, b2, -⟩ := hc q_FD (by unfold q_FD; omega) S X Z P n z hS hP b (b.st a2 s) a4 (by rw [a3 r b.r9.1]; exact hz) (by omega)
        have b1 : f_Lr_parseWhole (f_Lr_parsePart q_FD) r (z_n 0) (z_h S X Z P n) = some (z_n F, z_h S Y W P n) := b1
        exact ⟨Y, W, by rw [a1, b1, z_sq, if_neg (y_n0 g.1 g.2)], a2.trans b2⟩
      · intro S I J P n z j hS hP hT' kM h39 zp hj j6
        obtain ⟨X, Z, a1, a2, a3, a4, a5, a6, a7, a8, a9, a10⟩ := ref S I J P n z j hS hP hT' kM h39 zp hj j6
        obtain ⟨Y, W, b1, b2, b3⟩ := hm S X Z P n z q_FU hS hP a10 a3 a4 (by omega) (by rw [z_FU]; omega) (Or.inl rfl) (fun _ => a9)
        refine ⟨Y, W, fun m => ?_, a2.trans (b2.lf j) (Nat.le_refl _), b3⟩
        rw [a1, b1, z_sq, z_sq, if_pos (show z_n 0 = (0 : Int32) from rfl)]
        rfl
    · obtain ⟨⟨g1, g2, g3, g4⟩, ⟨g5, g6⟩, g7, g8⟩ := g
      have cls2 : ∀ (S : z_SH) (I : z_MI) (J : z_MJ) (P : z_MP) (n : Nat × Nat) (z : Nat), z_St S → z_Pt P → y_cl S P r c T → y_st I J T → k_C T p I J → I r 3 = z_n z → z ≤ p → ∃ X Z, f_Lr_parseLawLine r (z_h S I J P n) = (q_sq (f_Ta_isSign 9 (z_n 59) (z_h S X Z P n)) fun x25 σ24 => if x25 = (0 : Int32) then ((q_gr (q_gf σ24 11 r 0)).bind fun x27 => (q_ob σ24 1 x27).bind fun w28 => q_sq (f_Ta_fault x27 (1 : Int32) σ24) fun x30 σ29 => some (x30, σ29)) else (some ((0 : Int32), σ24))) ∧ y_cf r c I J X Z ∧ k_C T p3 X Z ∧ (p3 < T.1 → y_em r c z (cc ++ [20000]) I X) := by
        intro S I J P n z hS hP b s kC hz zp
        obtain ⟨X, Z, a1, a2, a3, a4⟩ := cls S I J P n hS hP b s kC
        obtain ⟨Y, W, b1, b2, b3, b4⟩ := hc q_FD (by unfold q_FD; omega) S X Z P n z hS hP b (b.st a2 s) a4 (by rw [a3 r b.r9.1]; exact hz) (by omega)
        have b1 : f_Lr_parseWhole (f_Lr_parsePart q_FD) r (z_n 0) (z_h S X Z P n) = some (z_n 0, z_h S Y W P n) := b1
        have b4 : y_em r c z cc I Y := ⟨b4.1, fun i hi => by rw [b4.2.1 i hi, a3 c b.r9.2], b4.2.2⟩
        obtain ⟨V, e1, e2, e3, e4, -⟩ := C_emit (J := W) (n := n) b hT b4.1 (by omega) 20000
        refine ⟨V, W, ?_, (a2.trans b2).trans e2, by unfold k_C; rw [e3]; exact b3, fun hl => b4.app (e4 (by omega))⟩
        rw [a1, b1, z_sq, if_pos (show z_n 0 = (0 : Int32) from rfl), z_ob b.1, Option.bind_some, show (20000 : Int32) = z_n 20000 from rfl, e1, z_sq, z_gr b.1 rfl b.2.1, Option.bind_some, z_ob (s_9 hS), Option.bind_some]
        rfl
      by_cases q59 : k_is T p3 59 = true
      · obtain ⟨ke1, ke2, ke3⟩ := k_end_p g2 (show ¬ k_k T p3 = 0 by rw [(k_is_k q59).1]; omega)
        refine ⟨.inr (p3, cc, rc, w), ⟨⟨by omega, ke1, by omega, ke3, ke2⟩, g6.mono (by omega), y_e.mono g7 (by omega)⟩, ?_, ?_⟩
        · intro S I J P n z hS hP b s kC hz zp
          obtain ⟨X, Z, a1, a2, a3, a4⟩ := cls2 S I J P n z hS hP b s kC hz zp
          refine ⟨X, Z, ?_, a2, a3, a4 ke1⟩
          rw [a1, C_isSign hS g2 (b.st a2 s).2.1 a3 (by omega), z_b_t q59, z_sq, if_neg (show ¬ z_n 1 = (0 : Int32) by decide)]
          rfl
        · intro S I J P n z j hS hP hT' kM h39 zp hj j6
          obtain ⟨X, Z, a1, a2, a3, a4, a5, a6, a7, a8, a9, a10⟩ := ref S I J P n z j hS hP hT' kM h39 zp hj j6
          obtain ⟨Y, W, m', b1, b2, b3, b4, b5, b6, b7, b8⟩ := hm S X Z P n z q_FU hS hP a10 a3 a4 (by omega) (by rw [z_FU]; omega) (Or.inl rfl) (fun _ => a9)
          obtain ⟨m', rfl⟩ : ∃ m2, m' = m2 + 1 := ⟨m' - 1, by omega⟩
          obtain ⟨V, U, e1, e2, e3, e4, e5⟩ := R_end (d := 0) (z := z + rc.length) hS hP (b3.hd a10) g2 b4 (by rw [b5.1, Nat.add_assoc]) (by omega) (by omega) q59
          have t := b3.trans e2
          have v104 : V 104 = I 104 := (t.1 104 (by omega) (by omega) (by omega) (by omega)).trans a5
          have v105 : V 105 = X 105 := t.1 105 (by omega) (by omega) (by omega) (by omega)
          have v106 : V 106 = I 106 := (t.1 106 (by omega) (by omega) (by omega) (by omega)).trans a6
          have v39 : V 83 39 = z_n (4000 + z + rc.length) := e4.trans b5.1
          have g35 : ∀ X Z, q_gr (q_gf (z_h S X Z P n) 12 83 35) = some 104 := fun _ _ => z_gr (s_83 hS) rfl (p_83_35 hP)
          have g37 : ∀ X Z, q_gr (q_gf (z_h S X Z P n) 12 83 37) = some 106 := fun _ _ => z_gr (s_83 hS) rfl (p_83_37 hP)
          have r104 : q_gi (q_ga (z_h S V U P n) 20 104 (z_n 4)) = some (z_n j) := by rw [z_gia (s_104 hS) (by omega) (z_rpl (by omega)), v104, hj]
          have r39 : q_gi (q_gf (z_h S V U P n) 12 83 39) = some (z_n (4000 + z + rc.length)) := by rw [z_gi (s_83 hS) rfl, v39]
          have w106 : ∀ v, q_sa (z_h S V U P n) 20 106 (z_n (24 + j)) (.int v) = some (z_h S (z_up V 106 (24 + j) v) U P n) := fun _ => z_sai (s_106 hS) (by decide) (by omega) (z_rpl (by omega))
          have r104' : ∀ v, q_gi (q_ga (z_h S (z_up V 106 (24 + j) v) U P n) 20 104 (z_n 4)) = some (z_n j) := fun v => by rw [z_gia (s_104 hS) (by omega) (z_rpl (by omega)), z_ups (by omega), v104, hj]
          have w104 : ∀ X v, q_sa (z_h S X U P n) 20 104 (z_n 4) (.int v) = some (z_h S (z_up X 104 4 v) U P n) := fun _ _ => z_sai (s_104 hS) (by decide) (by omega) (z_rpl (by omega))
          have l := a2.trans (t.lf j) (Nat.le_refl _)
          refine ⟨z_up (z_up V 106 (24 + j) (z_n (4000 + z + rc.length))) 104 4 (z_n (j + 1)), U, fun m => ?_, ⟨fun a h1 h2 => by rw [z_ups (by omega), z_ups (by omega)]; exact l.1 a h1 h2, fun i h1 h2 => by rw [z_ups (by omega), z_ups (by omega)]; exact l.2.1 i h1 h2, l.2.2.1, l.2.2.2.1, fun i hi => by rw [z_ups (by omega), z_ups (by omega)]; exact l.2.2.2.2.1 i hi, fun i hi => by rw [z_up_i hi, z_ups (by omega)]; exact l.2.2.2.2.2.1 i hi, fun i hi => ⟨by rw [z_ups (by omega), z_ups (by omega)]; exact (l.2.2.2.2.2.2 i hi).1, by rw [z_ups (by omega), z_up_i (by omega)]; exact (l.2.2.2.2.2.2 i hi).2⟩⟩, by unfold k_M; rw [z_ups (by omega), z_ups (by omega)]; exact e3, ⟨by rw [z_ups (by omega), z_ups (by omega), v39], fun i hi => by rw [z_ups (by omega), z_ups (by omega), e5, b5.2.1 i hi, a7], fun i hi => by rw [z_ups (by omega), z_ups (by omega), e5, b5.2.2 i hi]⟩, z_up_s _ _ _ _, by rw [z_ups (by omega), z_ups (by omega), v105, a8], by rw [z_ups (by omega), z_up_s]⟩
          rw [a1, b1, e1, z_sq, z_sq, if_neg (show ¬ z_n 1 = (0 : Int32) by decide), g37, Option.bind_some, g35, Option.bind_some, show (4 : Int32) = z_n 4 from rfl, r104, Option.bind_some, r39, Option.bind_some, show (24 : Int32) = z_n 24 from rfl, z_n_add, w106, Option.bind_some, g35, Option.bind_some, r104', Option.bind_some, show (1 : Int32) = z_n 1 from rfl, z_n_add, w104, Option.bind_some]
      · refine ⟨.inl (k_fl T 1 p3), y_fl hT g2 (by omega) (by omega), ?_, ?_⟩
        · intro S I J P n z hS hP b s kC hz zp
          obtain ⟨X, Z, a1, a2, a3, a4⟩ := cls2 S I J P n z hS hP b s kC hz zp
          refine ⟨X, Z, ?_, a2⟩
          rw [a1, C_isSign hS g2 (b.st a2 s).2.1 a3 (by omega), z_b_f q59, z_sq, if_pos (show z_n 0 = (0 : Int32) from rfl), z_gr b.1 rfl b.2.1, Option.bind_some, z_ob (s_9 hS), Option.bind_some, show (1 : Int32) = z_n 1 from rfl, C_fault hS a3.2.2.1, z_sq]
        · intro S I J P n z j hS hP hT' kM h39 zp hj j6
          obtain ⟨X, Z, a1, a2, a3, a4, a5, a6, a7, a8, a9, a10⟩ := ref S I J P n z j hS hP hT' kM h39 zp hj j6
          obtain ⟨Y, W, m', b1, b2, b3, b4, b5, b6, b7, b8⟩ := hm S X Z P n z q_FU hS hP a10 a3 a4 (by omega) (by rw [z_FU]; omega) (Or.inl rfl) (fun _ => a9)
          obtain ⟨m', rfl⟩ : ∃ m2, m' = m2 + 1 := ⟨m' - 1, by omega⟩
          obtain ⟨t1, t2, t3, t4⟩ := g8
          have c9 : Y 109 0 = z_n cm := b8.trans (if_pos (by decide))
          have er := R_err (n := n) (d := 0) (z := z + rc.length) hS hP (b3.hd a10) g2 b4 (by rw [b5.1, Nat.add_assoc]) (by omega) (by omega) (t2 (by omega)).1 (t2 (by omega)).2 (t1 (by omega)) (by
            obtain ⟨t5, t6⟩ := t3 (by omega)
            by_cases c0 : cm = 0
            · exact Or.inr (t6 c0)
            · exact Or.inl (by rw [c9, show cm = 1 by omega])) (t4 (by omega)).1 (t4 (by omega)).2 (Or.inl rfl) (Or.inr (Bool.eq_false_iff.mpr q59)) m'
          refine ⟨_, W, fun m => ?_, a2.trans ((b3.trans (y_mf_24 _)).lf j) (Nat.le_refl _), z_up_s _ _ _ _⟩
          rw [a1, b1, er, z_sq, z_sq, if_pos (show z_n 0 = (0 : Int32) from rfl)]
          rfl
  · refine ⟨.inl (k_fl T 1 (k_e T p)), y_fl hT kp3 (by omega) (by omega), ?_, ?_⟩
    · intro S I J P n z hS hP b s kC hz zp
      obtain ⟨X, Z, a1, a2, a3, a4⟩ := C_next (n := n) hS hP b s hp kC
      refine ⟨X, Z, ?_, a2⟩
      unfold f_Lr_parseLawLine
      rw [z_gr b.1 rfl b.2.1, Option.bind_some, z_ob (s_9 hS), Option.bind_some, a1, z_sq, z_gr b.1 rfl b.2.1, Option.bind_some, z_gr b.1 rfl b.2.2.1, Option.bind_some, z_ob (s_9 hS), Option.bind_some, C_word hS hP (b.st a2 s) a4, z_sq, show (17 : Int32) = z_n 17 from rfl, if_neg (fun e => h1 ((y_xw (by omega)).mp e)), z_gr b.1 rfl b.2.1, Option.bind_some, z_ob (s_9 hS), Option.bind_some, show (1 : Int32) = z_n 1 from rfl, C_fault hS a4.2.2.1, z_sq]
    · intro S I J P n z j hS hP hT' kM h39 zp hj j6
      have om := fun I J => z_ob (I := I) (J := J) (P := P) (n := n) (s_83 hS)
      have r21 : q_gi (q_gf (z_h S I J P n) 12 83 21) = some (z_n 1) := by rw [z_gi (s_83 hS) rfl, kM.2.2.1, kk.1]
      have w1 : f_Mo_isWord 83 (8903 : Int64) (z_h S I J P n) = some (z_n 1, z_h S I J P n) := (M_wd2 hS kM (i := 16) (by omega)).trans (by rw [z_b_t h])
      obtain ⟨X, Z, a1, a2, a3, a4, a5⟩ := M_nx (n := n) hS hP hT' hp kM
      have w2 : f_Mo_isWord 83 (458690 : Int64) (z_h S X Z P n) = some (z_n 0, z_h S X Z P n) := (M_wd2 hS a3 (i := 17) (by omega)).trans (by rw [z_b_f h1])
      have er := M_errs (n := n) hS hP a3 1
      have g35 : ∀ X Z, q_gr (q_gf (z_h S X Z P n) 12 83 35) = some 104 := fun _ _ => z_gr (s_83 hS) rfl (p_83_35 hP)
      have r104 : q_gi (q_ga (z_h S I J P n) 20 104 (z_n 4)) = some (z_n j) := by rw [z_gia (s_104 hS) (by omega) (z_rpl (by omega)), hj]
      refine ⟨_, Z, fun m => ?_, (a2.trans (y_mf_24 _)).lf j, z_up_s _ _ _ _⟩
      rw [f_Mo_readsLaw_L14, r21, Option.bind_some, if_neg (show ¬ z_n 1 = (0 : Int32) by decide), om, Option.bind_some, w1, z_sq, if_neg (show ¬ z_n 1 = (0 : Int32) by decide), g35, Option.bind_some, show (4 : Int32) = z_n 4 from rfl, r104, Option.bind_some, if_neg (show ¬ z_n j = (6 : Int32) by rw [show (6 : Int32) = z_n 6 from rfl, z_eq (by omega) (by omega)]; omega), om, Option.bind_some, a1, z_sq, om, Option.bind_some, w2, z_sq, if_pos (show z_n 0 = (0 : Int32) from rfl), om, Option.bind_some, show (1 : Int32) = z_n 1 from rfl, er, z_sq, if_neg (by decide)]
end
