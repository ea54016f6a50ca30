/-! LAW: a PART: not, and what stands in brackets. -/
section
variable {T : k_T} {r c d p : Nat}
theorem y_cl.r9 {S : z_SH} {P : z_MP} (b : y_cl S P r c T) : r ≠ 9 ∧ c ≠ 9 := by obtain ⟨-, -, -, -, -, h1, h2, -⟩ := b; omega
theorem y_cl.st {S : z_SH} {P : z_MP} {I X : z_MI} {J Z : z_MJ} (b : y_cl S P r c T) (h : y_cf r c I J X Z) (s : y_st I J T) : y_st X Z T := h.st b.2.2.2.2.2.1 b.2.2.2.2.2.2.1 s
theorem y_part_not (hT : T.1 ≤ 1000) (hp : p ≤ T.1) (hd : d ≤ 4) (h : k_ix T k_w2 p = 15) (q : y_Q T r c 0 (d + 1) (k_e T p)) : y_Q T r c 0 d p := by
  obtain ⟨O, g, hc, hm⟩ := q
  have k1 := (k_i2_is (show k_ix T k_w2 p < 18 by omega)).1
  have c40 : ¬ k_is T p 40 = true := fun e => by have := (k_is_k e).1; omega
  have kp := k_end_p hp (show ¬ k_k T p = 0 by omega)
  rcases O with F | ⟨p', cc, rc, w, cm⟩
  · refine ⟨.inl F, g, fun k hk => ?_, ?_⟩
    · obtain ⟨k, rfl⟩ : ∃ k', k = k' + 1 := ⟨k - 1, by omega⟩
      intro S I J P n z hS hP b s kC hz zp
      obtain ⟨X, Z, a1, a2, a3, a4⟩ := C_next (n := n) hS hP b s hp kC
      obtain ⟨Y, W, b1, b2, z', b3, b4⟩ := hc k (by omega) S X Z P n z hS hP b (b.st a2 s) a4 (by rw [a3 r b.r9.1]; exact hz) (by omega)
      have b1 : f_Lr_parsePart k r (z_n (d + 1)) (z_h S X Z P n) = some (z_n F, z_h S Y W P n) := b1
      obtain ⟨V, e1, e2, e3, -, z2, e5, e6⟩ := C_emit (J := W) (n := n) b hT b4 b3 20001
      refine ⟨V, W, ?_, (a2.trans b2).trans e2, z2, e5, e6⟩
      show f_Lr_bPart (f_Lr_parsePart k) r (z_n d) (z_h S I J P n) = _
      rw [C_part hS hP b s hp kC _ (by omega), if_neg (fun e => e (Or.inr (Or.inl h))), if_neg (by omega), if_neg c40, if_pos h, a1, z_sq, z_ob b.1, Option.bind_some, b1, z_sq, z_ob b.1, Option.bind_some, e1, z_sq]
    · intro S I J P n z m hS hP hT' kM h39 zp hf
      obtain ⟨m, rfl⟩ : ∃ m', m = m' + 1 := ⟨m - 1, by omega⟩
      obtain ⟨X, Z, a1, a2, a3, a4, a5, a6⟩ := P_not hS hP hT' hp kM h39 zp (by omega) hd h
      obtain ⟨Y, W, b1, b2, b3⟩ := hm S X Z P n (z + 1) m hS hP (a2.hd hT') a3 a4.1 (by omega) (by omega)
      exact ⟨Y, W, by rw [a1, b1], a2.trans b2, b3⟩
  · obtain ⟨⟨g1, g2, g3, g4⟩, ⟨g5, g6⟩, g7, g8⟩ := g
    refine ⟨.inr (p', cc ++ [20001], 30 :: rc, fun v => k_nt (w v), 0), ⟨⟨by omega, g2, by rw [List.length_append]; show cc.length + 1 ≤ _; omega, by show rc.length + 1 ≤ _; omega⟩, ⟨hd, (k_ec_nt g6).mono (by omega)⟩, (y_nt (m := 4 - (d + 1)) g7).mono (by omega), ⟨fun h => absurd h (by omega), fun h => absurd h (by omega), fun h => absurd h (by omega), fun h => absurd h (by omega)⟩⟩, fun k hk => ?_, ?_⟩
    · obtain ⟨k, rfl⟩ : ∃ k', k = k' + 1 := ⟨k - 1, by omega⟩
      intro S I J P n z hS hP b s kC hz zp
      obtain ⟨X, Z, a1, a2, a3, a4⟩ := C_next (n := n) hS hP b s hp kC
      obtain ⟨Y, W, b1, b2, b3, b4⟩ := hc k (by omega) S X Z P n z hS hP b (b.st a2 s) a4 (by rw [a3 r b.r9.1]; exact hz) (by omega)
      have b1 : f_Lr_parsePart k r (z_n (d + 1)) (z_h S X Z P n) = some (z_n 0, z_h S Y W P n) := b1
      obtain ⟨V, e1, e2, e3, e4, -⟩ := C_emit (J := W) (n := n) b hT b4.1 (by omega) 20001
      have e4 := e4 (by omega)
      refine ⟨V, W, ?_, (a2.trans b2).trans e2, by unfold k_C; rw [e3]; exact b3, ?_⟩
      · show f_Lr_bPart (f_Lr_parsePart k) r (z_n d) (z_h S I J P n) = _
        rw [C_part hS hP b s hp kC _ (by omega), if_neg (fun e => e (Or.inr (Or.inl h))), if_neg (by omega), if_neg c40, if_pos h, a1, z_sq, z_ob b.1, Option.bind_some, b1, z_sq, z_ob b.1, Option.bind_some, e1, z_sq]
      · have := b4.app e4
        exact ⟨this.1, fun i hi => by rw [this.2.1 i hi, a3 c b.r9.2], this.2.2⟩
    · intro S I J P n z m hS hP hT' kM h39 zp hf
      obtain ⟨m, rfl⟩ : ∃ m', m = m' + 1 := ⟨m - 1, by omega⟩
      obtain ⟨X, Z, a1, a2, a3, a4, a5, a6⟩ := P_not hS hP hT' hp kM h39 zp (by omega) hd h
      obtain ⟨Y, W, m', b1, b2, b3, b4, b5, b6⟩ := hm S X Z P n (z + 1) m hS hP (a2.hd hT') a3 a4.1 (by omega) (by omega)
      have pp : y_pp (X 108) (d + 1) = y_pp (I 108) d := by
        rw [y_pp, if_pos (by rw [a5, if_pos rfl]), y_pp_eq d (fun i hi => by rw [a5, if_neg (by omega)])]
      refine ⟨Y, W, m', by rw [a1, b1, pp], b2, a2.trans b3, b4, a4.app b5, fun j hj => ?_⟩
      obtain ⟨h1, h2⟩ := b6 j (by omega)
      exact ⟨by rw [h1, a5, if_neg (by omega)], by rw [h2, a6, if_neg (by omega)]⟩
theorem y_part_open (hT : T.1 ≤ 1000) (hp : p ≤ T.1) (hd : d ≤ 4) (h : k_is T p 40 = true) (q : y_Q T r c 4 (d + 1) (k_e T p)) : y_Q T r c 0 d p := by
  obtain ⟨O, g, hc, hm⟩ := q
  have k1 := (k_is_k h).1
  have ix : k_ix T k_w2 p = 18 := k_i2_s (by omega)
  have kp := k_end_p hp (show ¬ k_k T p = 0 by omega)
  have n10 : ¬ z_n 1 = (0 : Int32) := by decide
  rcases O with F | ⟨p', cc, rc, w, cm⟩
  · refine ⟨.inl F, g, fun k hk => ?_, ?_⟩
    · obtain ⟨k, rfl⟩ : ∃ k', k = k' + 1 := ⟨k - 1, by omega⟩
      intro S I J P n z hS hP b s kC hz zp
      obtain ⟨X, Z, a1, a2, a3, a4⟩ := C_next (n := n) hS hP b s hp kC
      obtain ⟨Y, W, b1, b2, z', b3, b4⟩ := hc k (by omega) S X Z P n z hS hP b (b.st a2 s) a4 (by rw [a3 r b.r9.1]; exact hz) (by omega)
      have b1 : f_Lr_parseWhole (f_Lr_parsePart k) r (z_n (d + 1)) (z_h S X Z P n) = some (z_n F, z_h S Y W P n) := b1
      have g' : 0 < F ∧ F < 20000 := g
      refine ⟨Y, W, ?_, a2.trans b2, z', b3, b4⟩
      show f_Lr_bPart (f_Lr_parsePart k) r (z_n d) (z_h S I J P n) = _
      rw [C_part hS hP b s hp kC _ (by omega), if_neg (fun e => e (Or.inr (Or.inr (Or.inl h)))), if_neg (by omega), if_pos h]
      unfold f_Lr_parseInner
      rw [z_gr b.1 rfl b.2.1, Option.bind_some, z_ob (s_9 hS), Option.bind_some, a1, z_sq, z_ob b.1, Option.bind_some, b1, z_sq, if_neg (show ¬ z_n F = (0 : Int32) by rw [show (0 : Int32) = z_n 0 from rfl, z_eq (by omega) (by omega)]; omega)]
    · intro S I J P n z m hS hP hT' kM h39 zp hf
      obtain ⟨m, rfl⟩ : ∃ m', m = m' + 1 := ⟨m - 1, by omega⟩
      obtain ⟨X, Z, a1, a2, a3, a4, a5, a6⟩ := P_open hS hP hT' hp kM h39 zp (by omega) hd h
      obtain ⟨Y, W, b1, b2, b3⟩ := hm S X Z P n (z + 1) m hS hP (a2.hd hT') a3 a4.1 (by omega) (by omega) (Or.inr (by rw [a5, if_pos rfl]; decide)) (fun _ => by rw [a6, if_pos rfl])
      exact ⟨Y, W, by rw [a1, b1], a2.trans b2, b3⟩
  · obtain ⟨⟨g1, g2, g3, g4⟩, ⟨g5, g6⟩, g7, g8⟩ := g
    -- both up to the bracket that closes
    have cls : ∀ k, 6 ≤ k + 1 + d → ∀ (S : z_SH) (I : z_MI) (J : z_MJ) (P : z_MP) (n : Nat × Nat) (z : Nat), z_St S → z_Pt P → y_cl S P r c T → y_st I J T → k_C T p I J → I r 3 = z_n z → z ≤ p → ∃ Y W, f_Lr_bPart (f_Lr_parsePart k) r (z_n d) (z_h S I J P n) = (q_sq (f_Ta_isSign 9 (z_n 41) (z_h S Y W P n)) fun x12 σ11 => if x12 = (0 : Int32) then ((q_gr (q_gf σ11 11 r 0)).bind fun x14 => (q_ob σ11 1 x14).bind fun w15 => q_sq (f_Ta_fault x14 (1 : Int32) σ11) fun x17 σ16 => some (x17, σ16)) else ((q_gr (q_gf σ11 11 r 0)).bind fun x18 => (q_ob σ11 1 x18).bind fun w19 => q_sq (f_Ta_advance x18 σ11) fun (_ : Unit) σ20 => some ((0 : Int32), σ20))) ∧ y_cf r c I J Y W ∧ k_C T p' Y W ∧ y_em r c z cc I Y := by
      intro k hk S I J P n z hS hP b s kC hz zp
      obtain ⟨X, Z, a1, a2, a3, a4⟩ := C_next (n := n) hS hP b s hp kC
      obtain ⟨Y, W, b1, b2, b3, b4⟩ := hc k (by omega) S X Z P n z hS hP b (b.st a2 s) a4 (by rw [a3 r b.r9.1]; exact hz) (by omega)
      have b1 : f_Lr_parseWhole (f_Lr_parsePart k) r (z_n (d + 1)) (z_h S X Z P n) = some (z_n 0, z_h S Y W P n) := b1
      refine ⟨Y, W, ?_, a2.trans b2, b3, b4.1, fun i hi => by rw [b4.2.1 i hi, a3 c b.r9.2], b4.2.2⟩
      rw [C_part hS hP b s hp kC _ (by omega), if_neg (fun e => e (Or.inr (Or.inr (Or.inl h)))), if_neg (by omega), if_pos h]
      unfold f_Lr_parseInner
      rw [z_gr b.1 rfl b.2.1, Option.bind_some, z_ob (s_9 hS), Option.bind_some, a1, z_sq, z_ob b.1, Option.bind_some, b1, z_sq, if_pos (show z_n 0 = (0 : Int32) from rfl), z_gr b.1 rfl b.2.1, Option.bind_some, z_ob (s_9 hS), Option.bind_some, show (41 : Int32) = z_n 41 from rfl]
    have ref : ∀ (S : z_SH) (I : z_MI) (J : z_MJ) (P : z_MP) (n : Nat × Nat) (z m : Nat), z_St S → z_Pt P → k_hd (I 83 18) (I 99) T → k_M T p I J → I 83 39 = z_n (4000 + z) → z ≤ p → T.1 < m + p → ∃ Y W m', f_Mo_reads_L11 83 m (z_n d) (z_n 1) (z_h S I J P n) = f_Mo_reads_L11 83 (m' + 1) (z_n (d + 1)) (z_n 0) (z_h S Y W P n) ∧ T.1 < m' + 1 + p' ∧ y_mf I J Y W ∧ k_M T p' Y W ∧ y_me z ([28] ++ rc) I Y ∧ (∀ j, j ≤ d → Y 108 j = I 108 j ∧ Y 109 j = I 109 j) ∧ Y 109 (d + 1) = z_n cm := by
      intro S I J P n z m hS hP hT' kM h39 zp hf
      obtain ⟨m, rfl⟩ : ∃ m', m = m' + 1 := ⟨m - 1, by omega⟩
      obtain ⟨X, Z, a1, a2, a3, a4, a5, a6⟩ := P_open hS hP hT' hp kM h39 zp (by omega) hd h
      obtain ⟨Y, W, m', b1, b2, b3, b4, b5, b6, b7, b8⟩ := hm S X Z P n (z + 1) m hS hP (a2.hd hT') a3 a4.1 (by omega) (by omega) (Or.inr (by rw [a5, if_pos rfl]; decide)) (fun _ => by rw [a6, if_pos rfl])
      obtain ⟨m', rfl⟩ : ∃ m2, m' = m2 + 1 := ⟨m' - 1, by omega⟩
      refine ⟨Y, W, m', by rw [a1, b1], b2, a2.trans b3, b4, a4.app b5, fun j hj => ?_, b8.trans (if_pos (by decide))⟩
      obtain ⟨h1, h2⟩ := b6 j (by omega)
      exact ⟨by rw [h1, a5, if_neg (by omega)], by rw [h2, a6, if_neg (by omega)]⟩
    by_cases q41 : k_is T p' 41 = true
    · have kp' := k_end_p g2 (show ¬ k_k T p' = 0 by rw [(k_is_k q41).1]; omega)
      refine ⟨.inr (k_e T p', cc, 28 :: (rc ++ [29]), w, 0), ⟨⟨by omega, kp'.2.2, by omega, by show (rc ++ [29]).length + 1 ≤ _; rw [List.length_append]; show rc.length + 1 + 1 ≤ _; omega⟩, ⟨hd, g6.mono (by omega)⟩, (y_pr (m := 4 - (d + 1)) g7).mono (by omega), ⟨fun h => absurd h (by omega), fun h => absurd h (by omega), fun h => absurd h (by omega), fun h => absurd h (by omega)⟩⟩, fun k hk => ?_, ?_⟩
      · obtain ⟨k, rfl⟩ : ∃ k', k = k' + 1 := ⟨k - 1, by omega⟩
        intro S I J P n z hS hP b s kC hz zp
        obtain ⟨Y, W, b1, b2, b3, b4⟩ := cls k (by omega) S I J P n z hS hP b s kC hz zp
        obtain ⟨V, U, e1, e2, e3, e4⟩ := C_next (n := n) hS hP b (b.st b2 s) g2 b3
        refine ⟨V, U, ?_, b2.trans e2, e4, by rw [e3 r b.r9.1]; exact b4.1, fun i hi => by rw [e3 c b.r9.2]; exact b4.2.1 i hi, fun i hi => by rw [e3 c b.r9.2]; exact b4.2.2 i hi⟩
        show f_Lr_bPart (f_Lr_parsePart k) r (z_n d) (z_h S I J P n) = _
        rw [b1, C_isSign hS g2 (b.st b2 s).2.1 b3 (by omega), z_b_t q41, z_sq, if_neg n10, z_gr b.1 rfl b.2.1, Option.bind_some, z_ob (s_9 hS), Option.bind_some, e1, z_sq]
        rfl
      · intro S I J P n z m hS hP hT' kM h39 zp hf
        obtain ⟨Y, W, m', b1, b2, b3, b4, b5, b6, b7⟩ := ref S I J P n z m hS hP hT' kM h39 zp hf
        have L : ([28] ++ rc).length = rc.length + 1 := by rw [List.length_append, List.length_singleton, Nat.add_comm]
        have z' : Y 83 39 = z_n (4000 + (z + (rc.length + 1))) := by rw [b5.1, L, Nat.add_assoc]
        obtain ⟨V, U, e1, e2, e3, e4, e5, e6⟩ := R_close (d := d + 1) (z := z + (rc.length + 1)) hS hP (b3.hd hT') g2 b4 z' (by omega) (by omega) q41 (by omega)
        have b5' : y_me (z + (rc.length + 1)) [29] Y V := e4
        refine ⟨V, U, m', ?_, by omega, b3.trans e2, e3, b5.app (by rw [L]; exact b5'), fun j hj => ?_⟩
        · rw [b1, e1, Nat.add_sub_cancel, y_pp_eq d (fun i hi => (b6 i hi).1)]
        · obtain ⟨h1, h2⟩ := b6 j hj
          exact ⟨by rw [e5, h1], by rw [e6, h2]⟩
    · refine ⟨.inl (k_fl T 1 p'), y_fl hT g2 (by omega) (by omega), fun k hk => ?_, ?_⟩
      · obtain ⟨k, rfl⟩ : ∃ k', k = k' + 1 := ⟨k - 1, by omega⟩
        intro S I J P n z hS hP b s kC hz zp
        obtain ⟨Y, W, b1, b2, b3, b4⟩ := cls k (by omega) S I J P n z hS hP b s kC hz zp
        refine ⟨Y, W, ?_, b2, _, ?_, b4.1⟩
        · show f_Lr_bPart (f_Lr_parsePart k) r (z_n d) (z_h S I J P n) = _
          rw [b1, C_isSign hS g2 (b.st b2 s).2.1 b3 (by omega), z_b_f q41, z_sq, if_pos (show z_n 0 = (0 : Int32) from rfl), z_gr b.1 rfl b.2.1, Option.bind_some, z_ob (s_9 hS), Option.bind_some, show (1 : Int32) = z_n 1 from rfl, C_fault hS b3.2.2.1, z_sq]
        · omega
      · intro S I J P n z m hS hP hT' kM h39 zp hf
        obtain ⟨Y, W, m', b1, b2, b3, b4, b5, b6, b7⟩ := ref S I J P n z m hS hP hT' kM h39 zp hf
        obtain ⟨t1, t2, t3, t4⟩ := g8
        refine ⟨z_up Y 83 24 (z_n (k_fl T 1 p')), W, ?_, b3.trans (y_mf_24 _), z_up_s _ _ _ _⟩
        have L : ([28] ++ rc).length = rc.length + 1 := by rw [List.length_append, List.length_singleton, Nat.add_comm]
        have z' : Y 83 39 = z_n (4000 + (z + (rc.length + 1))) := by rw [b5.1, L, Nat.add_assoc]
        rw [b1]
        refine R_err (d := d + 1) (z := z + (rc.length + 1)) hS hP (b3.hd hT') g2 b4 z' (by omega) (by omega) (t2 (by omega)).1 (t2 (by omega)).2 (t1 (by omega)) ?_ (t4 (by omega)).1 (t4 (by omega)).2 (Or.inr (Bool.eq_false_iff.mpr q41)) (Or.inl (by omega)) m'
        obtain ⟨t5, t6⟩ := t3 (by omega)
        by_cases c0 : cm = 0
        · exact Or.inr (t6 c0)
        · exact Or.inl (by rw [b7, show cm = 1 by omega])
end
