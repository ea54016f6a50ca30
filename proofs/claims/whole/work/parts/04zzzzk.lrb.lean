/-! LAW: a PART. -/
section
variable {T : k_T} {r c d p : Nat}
theorem y_mf_24 {I : z_MI} {J : z_MJ} (v : Int32) : y_mf I J (z_up I 83 24 v) J := ⟨fun a h _ _ _ => z_ups h, fun i hi _ => z_up_i (fun e => hi (by unfold k_5; omega)), fun _ _ => rfl, fun _ _ => rfl, fun i _ => by rw [z_ups (by omega)]⟩
theorem y_part_e {F : Nat} (h0 : 0 < F ∧ F < 20000) (hd : d ≤ 5) (hc : ∀ (Q : q_PF) (S : z_SH) (I : z_MI) (J : z_MJ) (P : z_MP) (n : Nat × Nat), z_St S → z_Pt P → y_cl S P r c T → y_st I J T → k_C T p I J → f_Lr_bPart Q r (z_n d) (z_h S I J P n) = some (z_n F, z_h S I J P n))
    (hm : ∀ (S : z_SH) (I : z_MI) (J : z_MJ) (P : z_MP) (n : Nat × Nat) (z m : Nat), z_St S → z_Pt P → k_hd (I 83 18) (I 99) T → k_M T p I J → I 83 39 = z_n (4000 + z) → z ≤ p → f_Mo_reads_L11 83 (m + 1) (z_n d) (z_n 1) (z_h S I J P n) = some (z_n 0, z_h S (z_up I 83 24 (z_n F)) J P n)) (hp : p ≤ T.1) : y_Q T r c 0 d p := by
  refine ⟨.inl F, h0, fun k hk => ?_, ?_⟩
  · obtain ⟨k, rfl⟩ : ∃ k', k = k' + 1 := ⟨k - 1, by omega⟩
    intro S I J P n z hS hP b s kC hz zp
    exact ⟨I, J, hc _ S I J P n hS hP b s kC, y_cf.rfl' r c I J, z, by omega, hz⟩
  · intro S I J P n z m hS hP hT kM h39 zp hf
    obtain ⟨m, rfl⟩ : ∃ m', m = m' + 1 := ⟨m - 1, by omega⟩
    exact ⟨_, _, hm S I J P n z m hS hP hT kM h39 zp, y_mf_24 _, z_up_s _ _ _ _⟩
theorem y_part_e1 (hT : T.1 ≤ 1000) (hp : p ≤ T.1) (hd : d ≤ 5) (h : ¬ (k_ix T k_w2 p < 13 ∨ k_ix T k_w2 p = 15 ∨ k_is T p 40 = true ∨ k_k T p = 2)) : y_Q T r c 0 d p := by
  refine y_part_e (y_fl hT hp (by omega) (by omega) : 0 < k_fl T 1 p ∧ _) hd (fun Q S I J P n hS hP b s kC => ?_) (fun S I J P n z m hS hP hT kM h39 zp => ?_) hp
  · rw [C_part hS hP b s hp kC Q hd, if_pos h]
  · have e40 : k_is T p 40 = false := Bool.eq_false_iff.mpr fun e => h (Or.inr (Or.inr (Or.inl e)))
    exact P_err1 hS hP hT hp kM h39 zp hd e40 (fun e => h (Or.inr (Or.inr (Or.inr e)))) (fun e => h (Or.inl e)) (fun e => h (Or.inr (Or.inl e))) m
theorem y_part_e5 (hT : T.1 ≤ 1000) (hp : p ≤ T.1) (h : k_ix T k_w2 p < 13 ∨ k_ix T k_w2 p = 15 ∨ k_is T p 40 = true ∨ k_k T p = 2) : y_Q T r c 0 5 p := by
  refine y_part_e (y_fl hT hp (by omega) (by omega) : 0 < k_fl T 5 p ∧ _) (Nat.le_refl _) (fun Q S I J P n hS hP b s kC => ?_) (fun S I J P n z m hS hP hT kM h39 zp => ?_) hp
  · rw [C_part hS hP b s hp kC Q (Nat.le_refl _), if_neg (fun e => e h), if_pos rfl]
  · exact P_err5 (d := 5) hS hP hT hp kM h39 zp (Nat.le_refl _) h m

theorem y_leafs {x y : Nat} {w : l_V → Int32} (hp : p < k_e T p ∧ k_e T p ≤ T.1) (hd : d ≤ 4) (hx : x < 20000) (hw : w = fun v => k_pv v x) (hy : (1 ≤ y ∧ y < 14) ∨ (100 ≤ y ∧ y < 20000)) (hw2 : w = fun v => y_pv v y)
    (hc : ∀ (Q : q_PF) (S : z_SH) (I : z_MI) (J : z_MJ) (P : z_MP) (n : Nat × Nat), z_St S → z_Pt P → y_cl S P r c T → y_st I J T → k_C T p I J → f_Lr_bPart Q r (z_n d) (z_h S I J P n) = q_sq (f_Lr_emit r (z_n x) (z_h S I J P n)) fun (_ : Unit) σ73 => (q_gr (q_gf σ73 11 r 0)).bind fun x75 => (q_ob σ73 1 x75).bind fun _ => q_sq (f_Ta_advance x75 σ73) fun (_ : Unit) σ77 => some (z_n 0, σ77))
    (hm : ∀ (S : z_SH) (I : z_MI) (J : z_MJ) (P : z_MP) (n : Nat × Nat) (z : Nat), z_St S → z_Pt P → k_hd (I 83 18) (I 99) T → k_M T p I J → I 83 39 = z_n (4000 + z) → z ≤ p → ∃ X Z, (∀ m, f_Mo_reads_L11 83 (m + 1) (z_n d) (z_n 1) (z_h S I J P n) = f_Mo_reads_L11 83 m (z_n (y_pp (I 108) d)) (z_n 0) (z_h S X Z P n)) ∧ y_mf I J X Z ∧ k_M T (k_e T p) X Z ∧ y_me z [y] I X ∧ X 108 = I 108 ∧ X 109 = I 109) (hT : T.1 ≤ 1000) : y_Q T r c 0 d p := by
  refine ⟨.inr (k_e T p, [x], [y], w, 0), ⟨⟨hp.1, hp.2, by show 1 ≤ _; omega, by show 1 ≤ _; omega⟩, ⟨hd, hw ▸ (k_ec_pu hx).mono (by omega)⟩, hw2 ▸ (y_leaf hy).mono (by omega), ⟨fun h => absurd h (by omega), fun h => absurd h (by omega), fun h => absurd h (by omega), fun h => absurd h (by omega)⟩⟩, fun k hk => ?_, ?_⟩
  · obtain ⟨k, rfl⟩ : ∃ k', k = k' + 1 := ⟨k - 1, by omega⟩
    intro S I J P n z hS hP b s kC hz zp
    obtain ⟨X, a1, a2, a3, a4, -⟩ := C_emit (J := J) (n := n) b hT hz (by omega) x
    have s2 := a2.st b.2.2.2.2.2.1 b.2.2.2.2.2.2.1 s
    have kC2 : k_C T p X J := by unfold k_C; rw [a3]; exact kC
    obtain ⟨Y, Z, c1, c2, c3, c4⟩ := C_next (n := n) hS hP b s2 (by omega) kC2
    have g0 : q_gr (q_gf (z_h S X J P n) 11 r 0) = some 9 := z_gr b.1 rfl b.2.1
    have o9 := z_ob (I := X) (J := J) (P := P) (n := n) (s_9 hS)
    obtain ⟨e1, e2, e3⟩ := a4 (by omega)
    have r9 : r ≠ 9 := by have := b.2.2.2.2.2.1; omega
    have c9 : c ≠ 9 := by have := b.2.2.2.2.2.2.1; omega
    refine ⟨Y, Z, ?_, a2.trans c2, c4, ⟨by rw [c3 r r9]; exact e1, fun i hi => by rw [c3 c c9]; exact e2 i hi, fun i hi => by rw [c3 c c9]; exact e3 i hi⟩⟩
    show f_Lr_bPart (f_Lr_parsePart k) r (z_n d) (z_h S I J P n) = _
    rw [hc _ S I J P n hS hP b s kC, a1, z_sq, g0, Option.bind_some, o9, Option.bind_some, c1, z_sq]
  · intro S I J P n z m hS hP hT kM h39 zp hf
    obtain ⟨m, rfl⟩ : ∃ m', m = m' + 1 := ⟨m - 1, by omega⟩
    obtain ⟨X, Z, a1, a2, a3, a4, a5, a6⟩ := hm S I J P n z hS hP hT kM h39 zp
    exact ⟨X, Z, m, a1 m, by omega, a2, a3, a4, fun j _ => ⟨by rw [a5], by rw [a6]⟩⟩
theorem y_part_fact (hT : T.1 ≤ 1000) (hp : p ≤ T.1) (hd : d ≤ 4) (h : k_ix T k_w2 p < 13) : y_Q T r c 0 d p := by
  have k1 := (k_i2_is (show k_ix T k_w2 p < 18 by omega)).1
  have c40 : ¬ k_is T p 40 = true := fun e => by have := (k_is_k e).1; omega
  refine y_leafs (x := 10000 + k_ix T k_w2 p) (y := k_ix T k_w2 p + 1) (w := fun v => k_pv v (10000 + k_ix T k_w2 p)) (k_end_p hp (by omega)).2 hd (by omega) rfl (by omega) ?_ (fun Q S I J P n hS hP b s kC => ?_) (fun S I J P n z hS hP hT kM h39 zp => ?_) hT
  · funext v
    unfold k_pv y_pv
    rw [if_pos (by omega), if_neg (by omega), Nat.add_sub_cancel_left, Nat.add_sub_cancel]
  · rw [C_part hS hP b s hp kC Q (by omega), if_neg (fun e => e (Or.inl h)), if_neg (by omega), if_neg c40, if_neg (by omega), if_pos h]
  · exact P_fact hS hP hT hp kM h39 zp (by omega) hd h
theorem y_part_num (hT : T.1 ≤ 1000) (hp : p ≤ T.1) (hd : d ≤ 4) (h : k_k T p = 2) : y_Q T r c 0 d p := by
  have ix : k_ix T k_w2 p = 18 := k_i2_s (by omega)
  have c40 : ¬ k_is T p 40 = true := fun e => by have := (k_is_k e).1; omega
  obtain ⟨u, hu, eu⟩ := k_vl_num h
  refine y_leafs (x := u) (y := 100 + u) (w := fun v => k_pv v u) (k_end_p hp (by omega)).2 hd (by omega) rfl (by omega) ?_ (fun Q S I J P n hS hP b s kC => ?_) (fun S I J P n z hS hP hT kM h39 zp => ?_) hT
  · funext v
    unfold k_pv y_pv
    rw [if_neg (by omega), if_pos (by omega), Nat.add_sub_cancel_left]
  · rw [C_part hS hP b s hp kC Q (by omega), if_neg (fun e => e (Or.inr (Or.inr (Or.inr h)))), if_neg (by omega), if_neg c40, if_neg (by omega), if_neg (by omega), eu, y_z32 hu]
  · obtain ⟨v, h1, h2, h3⟩ := kM.2.2.2.2 h
    have : v = u := by
      rw [eu, z_z_eq (by omega) (by omega) (by omega) (by omega)] at h2
      omega
    subst this
    exact P_num hS hP hT hp kM h39 zp (by omega) hd h h3
end
