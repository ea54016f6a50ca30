/-! READ: the reference reads a line. -/
/-- the answer and the rows when a line is read -/
def k_mq (T : k_T) (D : z_D) (r : Int32) (X : z_MI) (Z : z_MJ) (O : k_O) : Prop := match O with
  | .inl F => r = z_n 0 ∧ X 83 24 = z_n F
  | .inr (p', D') => r = z_n 1 ∧ D'.1 = D.1 ∧ k_M T p' X Z ∧ k_mz X Z (D'.1 + 1, D'.2)
section
variable {S : z_SH} {I : z_MI} {J : z_MJ} {P : z_MP} {K : Nat → Bool} {n : Nat × Nat} {T : k_T} {p : Nat} {D : z_D}
theorem k_wom (h : k_k T p = 1 ∧ k_vl T p = 12527906) : k_ix T k_w1 p = 9 := k_ix_w h.1 (by omega) h.2.symm
theorem k_wom' (h : k_ix T k_w1 p = 9) : k_k T p = 1 ∧ k_vl T p = 12527906 := by
  have := z_ff_is (fun i => decide (k_k T p = 1) && decide (k_w1.getD i 0 = k_vl T p)) k_w1.length (by change k_ix T k_w1 p < 10; omega)
  change (decide (k_k T p = 1) && decide (k_w1.getD (k_ix T k_w1 p) 0 = k_vl T p)) = true at this
  rw [Bool.and_eq_true, decide_eq_true_eq, decide_eq_true_eq, h] at this
  exact ⟨this.1, this.2.symm⟩
set_option maxRecDepth 100000 in
set_option maxHeartbeats 4000000 in
theorem M_line (hS : z_St S) (hP : z_Pt P) (hT : k_hd (I 83 18) (I 99) T) (hp : p ≤ T.1) (k : k_M T p I J) (h : k_mz I J D) (ok : d_ok D) (l12 : D.1 < 12) : ∃ r X Z, f_Mo_readsLine 83 (z_h S I J P n) = some (r, z_h S X Z P n) ∧ k_mf I J X Z ∧ k_mq T D r X Z (k_line T p (if k_ix T k_w1 p = 9 then z_n 1 else z_n 0) D) := by
  have om := fun I J => z_ob (I := I) (J := J) (P := P) (n := n) (s_83 hS)
  have a300 : 288 + D.1 < 300 := by omega
  have g7 : ∀ I J, q_gr (q_gf (z_h S I J P n) 12 83 7) = some 90 := fun _ _ => z_gr (s_83 hS) rfl (p_83_7 hP)
  have g8 : ∀ I J, q_gr (q_gf (z_h S I J P n) 12 83 8) = some 91 := fun _ _ => z_gr (s_83 hS) rfl (p_83_8 hP)
  have g9 : ∀ I J, q_gr (q_gf (z_h S I J P n) 12 83 9) = some 92 := fun _ _ => z_gr (s_83 hS) rfl (p_83_9 hP)
  have g10 : ∀ I J, q_gr (q_gf (z_h S I J P n) 12 83 10) = some 93 := fun _ _ => z_gr (s_83 hS) rfl (p_83_10 hP)
  have g11 : ∀ I J, q_gr (q_gf (z_h S I J P n) 12 83 11) = some 94 := fun _ _ => z_gr (s_83 hS) rfl (p_83_11 hP)
  have g12 : ∀ I J, q_gr (q_gf (z_h S I J P n) 12 83 12) = some 95 := fun _ _ => z_gr (s_83 hS) rfl (p_83_12 hP)
  have g13 : ∀ I J, q_gr (q_gf (z_h S I J P n) 12 83 13) = some 96 := fun _ _ => z_gr (s_83 hS) rfl (p_83_13 hP)
  have g14 : ∀ I J, q_gr (q_gf (z_h S I J P n) 12 83 14) = some 97 := fun _ _ => z_gr (s_83 hS) rfl (p_83_14 hP)
  have g15 : ∀ I J, q_gr (q_gf (z_h S I J P n) 12 83 15) = some 98 := fun _ _ => z_gr (s_83 hS) rfl (p_83_15 hP)
  have r90 : ∀ I J, q_gi (q_ga (z_h S I J P n) 20 90 (z_n 24)) = some (I 90 24) := fun _ _ => z_gia (s_90 hS) (by omega) (z_rpl (by omega))
  have w91 := fun I J v => z_sai (I := I) (J := J) (P := P) (n := n) (v := v) (s_91 hS) (by decide) (show 288 + D.1 < 2147483648 by omega) (z_rpl a300)
  have w92 := fun I J v => z_sai (I := I) (J := J) (P := P) (n := n) (v := v) (s_92 hS) (by decide) (show 288 + D.1 < 2147483648 by omega) (z_rpl a300)
  have w93 := fun I J v => z_sai (I := I) (J := J) (P := P) (n := n) (v := v) (s_93 hS) (by decide) (show 288 + D.1 < 2147483648 by omega) (z_rpl a300)
  have w94 := fun I J v => z_sai (I := I) (J := J) (P := P) (n := n) (v := v) (s_94 hS) (by decide) (show 288 + D.1 < 2147483648 by omega) (z_rpl a300)
  have w95 := fun I J v => z_sai (I := I) (J := J) (P := P) (n := n) (v := v) (s_95 hS) (by decide) (show 288 + D.1 < 2147483648 by omega) (z_rpl a300)
  have w96 := fun I J v => z_sal (I := I) (J := J) (P := P) (n := n) (v := v) (s_96 hS) (by decide) (show 288 + D.1 < 2147483648 by omega) (z_rpl a300)
  have w97 := fun I J v => z_sal (I := I) (J := J) (P := P) (n := n) (v := v) (s_97 hS) (by decide) (show 288 + D.1 < 2147483648 by omega) (z_rpl a300)
  have w98 := fun I J v => z_sal (I := I) (J := J) (P := P) (n := n) (v := v) (s_98 hS) (by decide) (show 288 + D.1 < 2147483648 by omega) (z_rpl a300)
  have wo := M_isWord (P := P) (n := n) hS k 12527906
  have sxe : ∀ K : Int32 → q_H → Option (Int32 × q_H), q_sq (if z_b (k_k T p = 1 ∧ k_vl T p = 12527906) = (0 : Int32) then (some ((0 : Int32), z_h S I J P n)) else (some ((1 : Int32), z_h S I J P n))) K = K (if k_ix T k_w1 p = 9 then z_n 1 else z_n 0) (z_h S I J P n) := by
    intro K
    by_cases q : k_k T p = 1 ∧ k_vl T p = 12527906
    · rw [z_b_t q, if_pos (k_wom q)]; rfl
    · rw [z_b_f q, if_neg (fun e => q (k_wom' e))]; rfl
  have hsn : ∃ sn, sn ≤ 1 ∧ (if k_ix T k_w1 p = 9 then z_n 1 else z_n 0) = z_n sn := by
    by_cases e : k_ix T k_w1 p = 9
    · exact ⟨1, by omega, if_pos e⟩
    · exact ⟨0, by omega, if_neg e⟩
  obtain ⟨sn, sn1, sne⟩ := hsn
  have hr := k_head_rc (T := T) (p := p) (D := D) sn1
  rw [← sne] at hr
  clear sne
  generalize (if k_ix T k_w1 p = 9 then z_n 1 else z_n 0) = sx at *
  have f3 : k_mf I J (z_up (z_up (z_up (z_up I 91 (288 + D.1) sx) 93 (288 + D.1) (-z_n 1)) 94 (288 + D.1) (-z_n 1)) 95 (288 + D.1) (z_n 0)) (z_uj (z_uj J 97 (288 + D.1) 0) 98 (288 + D.1) 0) :=
    (k_mf_i (k := 0) (by omega) (by omega) a300).trans ((k_mf_i (k := 2) (by omega) (by omega) a300).trans ((k_mf_i (k := 3) (by omega) (by omega) a300).trans ((k_mf_i (k := 4) (by omega) (by omega) a300).trans ((k_mf_j (k := 1) (by omega) (by omega) a300).trans (k_mf_j (k := 2) (by omega) (by omega) a300)))))
  have v18 := f3.hd hT
  have v19 : z_up (z_up (z_up (z_up I 91 (288 + D.1) sx) 93 (288 + D.1) (-z_n 1)) 94 (288 + D.1) (-z_n 1)) 95 (288 + D.1) (z_n 0) 83 19 = z_n (k_e T p) := by rw [z_ups (by decide), z_ups (by decide), z_ups (by decide), z_ups (by decide)]; exact k.1
  have le1 := (k_e_le hp).2
  have le2 := (k_e_le le1).2
  have le3 := (k_e_le le2).2
  obtain ⟨X1, Z1, a1, a2, a3, a4, a5, a6⟩ := M_next (n := n) hS hP v18 le1 v19
  have f1 : k_mf I J X1 Z1 := f3.trans (k_mf_83 a2 (fun i hi => a3 i (fun e => hi (by unfold k_5; omega)) (fun e => hi (by unfold k_5; omega)) (fun e => hi (by unfold k_5; omega)) (fun e => hi (by unfold k_5; omega))) a4 a5)
  have mzf : ∀ {X : z_MI} {Z : z_MJ}, X 90 24 = I 90 24 → (∀ l, l < D.1 → (∀ k, k < 5 → X (91 + k) (288 + l) = I (91 + k) (288 + l)) ∧ ∀ k, k < 3 → Z (96 + k) (288 + l) = J (96 + k) (288 + l)) → k_mz X Z D := fun e0 e => ⟨e0.trans h.1, fun l hl => ⟨fun k hk => ((e l hl).1 k hk).trans ((h.2 l hl).1 k hk), fun k hk => ((e l hl).2 k hk).trans ((h.2 l hl).2 k hk)⟩⟩
  have mz1 : k_mz X1 Z1 D := mzf (by rw [a2 90 (by decide), z_ups (by decide), z_ups (by decide), z_ups (by decide), z_ups (by decide)]) (fun l hl => ⟨fun k hk => by rw [a2 _ (by omega), z_up_i (by omega), z_up_i (by omega), z_up_i (by omega), z_up_i (by omega)], fun k hk => by rw [a4 _ (by omega), z_uj_i (by omega), z_uj_i (by omega)]⟩)
  have nm := M_isName (P := P) (n := n) hS a6
  have ln := M_lineOf (n := n) hS hP mz1 (by omega) (k_vl T (k_e T p))
  have er1 := M_errs (n := n) hS hP a6
  have nb : ¬ ¬ (z_n 0 = z_n 0 ∨ z_n 0 = z_n 1) := fun e => e (Or.inl rfl)
  have fin : ∀ {X : z_MI} {Z : z_MJ} (c q : Nat), k_mf I J X Z → ∃ r X' Z', some (z_n 0, z_h S (z_up X 83 24 (z_n (k_fl T c q))) Z P n) = some (r, z_h S X' Z' P n) ∧ k_mf I J X' Z' ∧ k_mq T D r X' Z' (.inl (k_fl T c q)) := fun c q f => ⟨_, _, _, rfl, f.trans (k_mf_24 _), rfl, z_up_s _ _ _ _⟩
  unfold k_head at hr
  unfold f_Mo_readsLine k_line k_head
  rw [g7, Option.bind_some, show (24 : Int32) = z_n 24 from rfl, r90, h.1, Option.bind_some, g8, Option.bind_some, om, Option.bind_some, wo, z_sq, sxe, show (288 : Int32) = z_n 288 from rfl, z_n_add, w91, Option.bind_some, g10, Option.bind_some, show (-1 : Int32) = -z_n 1 from rfl, w93, Option.bind_some, g11, Option.bind_some, w94, Option.bind_some, g12, Option.bind_some, show (0 : Int32) = z_n 0 from rfl, w95, Option.bind_some, g14, Option.bind_some, w97, Option.bind_some, g15, Option.bind_some, w98, Option.bind_some, om, Option.bind_some, a1, z_sq, om, Option.bind_some, nm, z_sq]
  by_cases q : k_nm T (k_e T p) = true
  · rw [if_neg (show ¬ ¬ k_nm T (k_e T p) = true from fun e => e q), z_b_t q, if_neg (by decide)]
    have r22 : q_gl' (q_gf (z_h S X1 Z1 P n) 12 83 22) = some (k_vl T (k_e T p)) := by rw [z_gl (s_83 hS) rfl, a6.2.2.2.1 (k_nm_k q)]
    rw [r22, Option.bind_some, om, Option.bind_some, ln, z_sq]
    by_cases q2 : d_nm (k_vl T (k_e T p)) D < D.1
    · rw [if_pos q2, if_pos q2, if_neg (by rw [z_lt (by omega) (by omega)]; omega), om, Option.bind_some, show (3 : Int32) = z_n 3 from rfl, M_errs (n := n) hS hP a6 3, z_sq, show (1 : Int32) = z_n 1 from rfl, if_neg nb]
      exact fin 3 _ f1
    rw [if_neg q2, if_neg q2, if_pos (by decide), g13, Option.bind_some, r22, Option.bind_some, w96, Option.bind_some, om, Option.bind_some]
    have f1j : k_mf I J X1 (z_uj Z1 96 (288 + D.1) (k_vl T (k_e T p))) := f1.trans (k_mf_j (k := 0) (by omega) (by omega) a300)
    obtain ⟨X2, Z2, b1, b2, b3, b4, b5, b6⟩ := M_next (J := z_uj Z1 96 (288 + D.1) (k_vl T (k_e T p))) (n := n) hS hP (f1j.hd hT) le2 a6.1
    have f2 : k_mf I J X2 Z2 := f1j.trans (k_mf_83 b2 (fun i hi => b3 i (fun e => hi (by unfold k_5; omega)) (fun e => hi (by unfold k_5; omega)) (fun e => hi (by unfold k_5; omega)) (fun e => hi (by unfold k_5; omega))) b4 b5)
    have r21 : q_gi (q_gf (z_h S X2 Z2 P n) 12 83 21) = some (z_n (k_k T (k_e T (k_e T p)))) := by rw [z_gi (s_83 hS) rfl, b6.2.2.1]
    have kk : k_k T (k_e T (k_e T p)) ≤ 4 := by unfold k_k; repeat (first | omega | split)
    rw [b1, z_sq, r21, Option.bind_some]
    by_cases q3 : k_k T (k_e T (k_e T p)) = 2
    · obtain ⟨v, hv, ev, e23⟩ := b6.2.2.2.2 q3
      have r23 : q_gi (q_gf (z_h S X2 Z2 P n) 12 83 23) = some (z_n v) := by rw [z_gi (s_83 hS) rfl, e23]
      rw [if_neg (show ¬ ¬ k_k T (k_e T (k_e T p)) = 2 from fun e => e q3), q3, if_pos (show z_n 2 = (2 : Int32) from rfl), r23, Option.bind_some, ev, show (120 : Int32) = z_n 120 from rfl]
      have ez : (z_z 120 < z_z (v : Nat)) ↔ 120 < v := by rw [z_z_lt (by omega) (by omega) (by omega) (by omega)]; omega
      have en : (z_n 120 < z_n v) ↔ 120 < v := by rw [z_lt (by omega) (by omega)]
      by_cases q4 : 120 < v
      · rw [if_pos (en.mpr q4), if_pos (ez.mpr q4), om, Option.bind_some, show (4 : Int32) = z_n 4 from rfl, M_errs (n := n) hS hP b6 4, z_sq, show (1 : Int32) = z_n 1 from rfl, if_neg nb]
        exact fin 4 _ f2
      rw [if_neg (fun e => q4 (en.mp e)), if_neg (fun e => q4 (ez.mp e)), g9, Option.bind_some, Option.bind_some, w92, Option.bind_some, om, Option.bind_some, z_zton]
      have f2i : k_mf I J (z_up X2 92 (288 + D.1) (z_n v)) Z2 := f2.trans (k_mf_i (k := 1) (by omega) (by omega) a300)
      obtain ⟨X3, Z3, c1, c2, c3, c4, c5, c6⟩ := M_next (J := Z2) (n := n) hS hP (f2i.hd hT) le3 (by rw [z_ups (by decide)]; exact b6.1)
      have f4 : k_mf I J X3 Z3 := f2i.trans (k_mf_83 c2 (fun i hi => c3 i (fun e => hi (by unfold k_5; omega)) (fun e => hi (by unfold k_5; omega)) (fun e => hi (by unfold k_5; omega)) (fun e => hi (by unfold k_5; omega))) c4 c5)
      rw [c1, z_sq]
      rw [if_neg (show ¬ ¬ k_nm T (k_e T p) = true from fun e => e q), if_neg q2, if_neg (show ¬ ¬ k_k T (k_e T (k_e T p)) = 2 from fun e => e q3), ev, if_neg (fun e => q4 (ez.mp e)), z_zton] at hr
      obtain ⟨de, rc⟩ := hr
      have tg0 := (d_hd_t D sx (z_n v) (k_vl T (k_e T p))).1
      have hi := d_hd_i D sx (z_n v) (k_vl T (k_e T p))
      have hj := d_hd_j D sx (z_n v) (k_vl T (k_e T p))
      have mz3 : k_mz X3 Z3 D := mzf (by rw [c2 90 (by decide), z_ups (by decide), b2 90 (by decide), a2 90 (by decide), z_ups (by decide), z_ups (by decide), z_ups (by decide), z_ups (by decide)]) (fun l hl => ⟨fun k hk => by rw [c2 _ (by omega), z_up_i (by omega), b2 _ (by omega), a2 _ (by omega), z_up_i (by omega), z_up_i (by omega), z_up_i (by omega), z_up_i (by omega)], fun k hk => by rw [c4 _ (by omega), b4 _ (by omega), z_uj_i (by omega), a4 _ (by omega), z_uj_i (by omega), z_uj_i (by omega)]⟩)
      have ml3 : k_ml X3 Z3 (d_hd D sx (z_n v) (k_vl T (k_e T p))) := by
        refine ⟨fun k hk => ?_, fun k hk => ?_⟩
        · show X3 (91 + k) (288 + D.1) = (d_hd D sx (z_n v) (k_vl T (k_e T p))).2.1 k D.1
          rw [hi k, c2 _ (by omega)]
          have cs : k = 0 ∨ k = 1 ∨ k = 2 ∨ k = 3 ∨ k = 4 := by omega
          rcases cs with rfl | rfl | rfl | rfl | rfl
          · rw [z_ups (by decide), b2 91 (by decide), a2 91 (by decide), z_ups (by decide), z_ups (by decide), z_ups (by decide), z_up_s]; rfl
          · exact z_up_s _ _ _ _
          · rw [z_ups (by decide), b2 93 (by decide), a2 93 (by decide), z_ups (by decide), z_ups (by decide), z_up_s]; rfl
          · rw [z_ups (by decide), b2 94 (by decide), a2 94 (by decide), z_ups (by decide), z_up_s]; rfl
          · rw [z_ups (by decide), b2 95 (by decide), a2 95 (by decide), z_up_s]; rfl
        · show Z3 (96 + k) (288 + D.1) = (d_hd D sx (z_n v) (k_vl T (k_e T p))).2.2 k D.1
          rw [hj k, c4 _ (by omega), b4 _ (by omega)]
          have cs : k = 0 ∨ k = 1 ∨ k = 2 := by omega
          rcases cs with rfl | rfl | rfl
          · exact z_uj_s _ _ _ _
          · rw [z_uj_a (by decide), a4 97 (by decide), z_uj_a (by decide)]; exact z_uj_s _ _ _ _
          · rw [z_uj_a (by decide), a4 98 (by decide)]; exact z_uj_s _ _ _ _
      generalize hD' : d_hd D sx (z_n v) (k_vl T (k_e T p)) = D' at *
      have e1 : D'.1 = D.1 := de.1.symm
      have mz4 : k_mz X3 Z3 D' := ⟨mz3.1.trans (by rw [e1]), fun l hl => ⟨fun k hk => ((mz3.2 l (by omega)).1 k hk).trans ((de.2 l (by omega)).1 k hk), fun k hk => ((mz3.2 l (by omega)).2 k hk).trans ((de.2 l (by omega)).2 k hk)⟩⟩
      have L := M_tagsL (n := n) (T := T) hS hP D.1 l12 9 q_FU (by rw [z_FU]; omega) (k_e T (k_e T (k_e T p))) D' X3 Z3 e1 le3 (f4.hd hT) c6 mz4 ml3 (de.ok ok) rc (by rw [e1, tg0]; rfl)
      rw [e1, tg0, show z_n (k_mk 0) = z_n 0 from rfl] at L
      rcases L with ⟨F, X, Z, g1, g2, g3, g4⟩ | ⟨ps, D2, X, Z, g1, g0, g2, g3, g4, g5, t6, t7⟩
      · rw [g2, z_sq]
        refine ⟨z_n 0, X, Z, rfl, f4.trans g3, ?_⟩
        show k_mq T D (z_n 0) X Z (k_tags T 9 _ D')
        rw [g1]
        exact ⟨rfl, g4⟩
      · rw [g2, z_sq]
        dsimp only
        obtain ⟨X5, Z5, h1, h2, h3, h4, h5, h6⟩ := M_next (J := Z) (n := n) hS hP ((f4.trans g3).hd hT) (k_e_le g0).2 g5.1
        have f5 : k_mf I J X5 Z5 := (f4.trans g3).trans (k_mf_83 h2 (fun i hi => h3 i (fun e => hi (by unfold k_5; omega)) (fun e => hi (by unfold k_5; omega)) (fun e => hi (by unfold k_5; omega)) (fun e => hi (by unfold k_5; omega))) h4 h5)
        have e2 : D2.1 = D.1 := g4
        have e90 : X5 90 24 = z_n D.1 := by rw [h2 90 (by decide), t6.1, e2]
        have w90 := fun I J v => z_sai (I := I) (J := J) (P := P) (n := n) (i := 24) (v := v) (s_90 hS) (by decide) (by omega) (z_rpl (by omega))
        rw [om, Option.bind_some, h1, z_sq, g7, Option.bind_some, r90, e90, Option.bind_some, show (1 : Int32) = z_n 1 from rfl, z_n_add, w90, Option.bind_some]
        refine ⟨z_n 1, z_up X5 90 24 (z_n (D.1 + 1)), Z5, rfl, f5.trans ⟨fun a ha1 ha2 => z_ups (by omega), fun i _ => by rw [z_ups (by decide)], fun i hi => z_up_i hi, fun k i _ _ => by rw [z_ups (by omega)], fun _ _ _ => rfl, fun _ _ => rfl, fun _ _ _ _ => rfl⟩, ?_⟩
        show k_mq T D (z_n 1) _ Z5 (k_tags T 9 _ D')
        rw [g1]
        refine ⟨rfl, e2, ?_, ?_⟩
        · obtain ⟨y1, y2, y3, y4, y5⟩ := h6
          exact ⟨by rw [z_ups (by decide)]; exact y1, by rw [z_ups (by decide)]; exact y2, by rw [z_ups (by decide)]; exact y3, y4, fun e => by rw [z_ups (by decide)]; exact y5 e⟩
        · refine ⟨by rw [z_up_s, e2], fun l hl => ?_⟩
          change l < D2.1 + 1 at hl
          have eI : ∀ k, k < 5 → z_up X5 90 24 (z_n (D.1 + 1)) (91 + k) = X (91 + k) := fun k hk => by rw [z_ups (by omega), h2 _ (by omega)]
          have eJ : ∀ k, k < 3 → Z5 (96 + k) = Z (96 + k) := fun k hk => h4 _ (by omega)
          refine ⟨fun k hk => ?_, fun k hk => ?_⟩
          · rw [eI k hk]
            by_cases e : l < D2.1
            · exact (t6.2 l e).1 k hk
            · have : l = D2.1 := by omega
              subst this; exact t7.1 k hk
          · rw [eJ k hk]
            by_cases e : l < D2.1
            · exact (t6.2 l e).2 k hk
            · have : l = D2.1 := by omega
              subst this; exact t7.2 k hk
    · rw [if_pos (show ¬ k_k T (k_e T (k_e T p)) = 2 from q3), if_neg (by rw [show (2 : Int32) = z_n 2 from rfl, z_eq (by omega) (by omega)]; exact q3), om, Option.bind_some, show (1 : Int32) = z_n 1 from rfl, M_errs (n := n) hS hP b6 1, z_sq, if_neg nb]
      exact fin 1 _ f2
  · rw [if_pos (show ¬ k_nm T (k_e T p) = true from q), z_b_f q, if_pos rfl, om, Option.bind_some, show (1 : Int32) = z_n 1 from rfl, er1, z_sq, if_neg nb]
    exact fin 1 _ f1
end
