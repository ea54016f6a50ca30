/-! LAW: the levels. -/
section
variable {T : k_T} {r c d p l : Nat} {opf : Nat → Option (Nat × Nat)} {LF : Nat → Nat → Int32 → Nat → q_H → Option (Int32 × q_H)}
theorem y_lev (h : y_op T r c l d opf LF) (l2 : ¬ l = 2) (hT : T.1 ≤ 1000) (hp : p ≤ T.1) (q : y_Q T r c l d p) (sub : ∀ p', p < p' → p' ≤ T.1 → y_Q T r c l d p') : y_Q T r c (l + 1) d p := by
  have hh := h
  obtain ⟨hA, hB, hC, hD, hE, hF, hG⟩ := hh
  obtain ⟨O, g, hc, hm⟩ := q
  have hm := y_RR_y hm
  rcases O with F | ⟨p2, cc, rc, w, cm⟩
  · have g : 0 < F ∧ F < 20000 := g
    refine ⟨.inl F, g, fun k hk => ?_, ?_⟩
    · intro S I J P n z hS hP b s kC hz zp
      obtain ⟨X, Z, a1, a2, a3⟩ := hc k hk S I J P n z hS hP b s kC hz zp
      refine ⟨X, Z, ?_, a2, a3⟩
      rw [hG, z_ob b.1, Option.bind_some, a1, z_sq, show q_FU = 999999 + 1 from rfl, hB k _ F 0 _ g.1 g.2]
    · intro S I J P n z m hS hP hT' kM h39 zp hf ho h9
      exact hm S I J P n z m hS hP hT' kM h39 zp hf ho (fun l3 => h9 (by omega))
  · obtain ⟨⟨g1, g2, g3, g4⟩, ⟨g5, g6⟩, g7, g8⟩ := g
    obtain ⟨O2, G, C2, M2⟩ := y_loop h l2 hT g5 sub T.1 p2 cm cc rc w (by omega) g1 g2 g8 (g6.mono (by omega)) (hF _ _ _ g7)
    rcases O2 with F | ⟨p3, cc3, rc3, w3, cm3⟩
    · have G : 0 < F ∧ F < 20000 := G
      refine ⟨.inl F, G, fun k hk => ?_, ?_⟩
      · intro S I J P n z hS hP b s kC hz zp
        obtain ⟨X, Z, a1, a2, a3, a4⟩ := hc k hk S I J P n z hS hP b s kC hz zp
        obtain ⟨Y, W, b1, b2, b3⟩ := C2 k hk q_FU 0 (by omega) (by rw [z_FU]; omega) S X Z P n _ hS hP b (b.st a2 s) a3 a4.1 (by omega)
        refine ⟨Y, W, ?_, a2.trans b2, b3⟩
        rw [hG, z_ob b.1, Option.bind_some, a1, z_sq, b1]
      · intro S I J P n z m hS hP hT' kM h39 zp hf ho h9
        obtain ⟨X, Z, m', a1, a2, a3, a4, a5, a6, a7, a8⟩ := hm S I J P n z m hS hP hT' kM h39 zp hf ho (fun l3 => h9 (by omega))
        obtain ⟨Y, W, b1, b2, b3⟩ := M2 S X Z P n (z + rc.length) m' hS hP (a3.hd hT') a4 (by rw [a5.1, Nat.add_assoc]) (by omega) a2 (by rw [a7]; exact ho) (fun l3 => by rw [a8, if_pos (by omega)])
        exact ⟨Y, W, by rw [a1, b1], a3.trans b2, b3⟩
    · obtain ⟨⟨G1, G2, G3, G4⟩, G5, G6, G7⟩ := G
      have L1 : (cc ++ cc3).length = cc.length + cc3.length := List.length_append
      have L2 : (rc ++ rc3).length = rc.length + rc3.length := List.length_append
      refine ⟨.inr (p3, cc ++ cc3, rc ++ rc3, w3, cm3), ⟨⟨by omega, G2, by omega, by omega⟩, ⟨g5, G5⟩, G6, G7⟩, fun k hk => ?_, ?_⟩
      · intro S I J P n z hS hP b s kC hz zp
        obtain ⟨X, Z, a1, a2, a3, a4⟩ := hc k hk S I J P n z hS hP b s kC hz zp
        obtain ⟨Y, W, b1, b2, b3, b4⟩ := C2 k hk q_FU 0 (by omega) (by rw [z_FU]; omega) S X Z P n _ hS hP b (b.st a2 s) a3 a4.1 (by omega)
        refine ⟨Y, W, ?_, a2.trans b2, b3, a4.app b4⟩
        rw [hG, z_ob b.1, Option.bind_some, a1, z_sq, b1]
      · intro S I J P n z m hS hP hT' kM h39 zp hf ho h9
        obtain ⟨X, Z, m', a1, a2, a3, a4, a5, a6, a7, a8⟩ := hm S I J P n z m hS hP hT' kM h39 zp hf ho (fun l3 => h9 (by omega))
        obtain ⟨Y, W, m2, b1, b2, b3, b4, b5, b6, b7, b8⟩ := M2 S X Z P n (z + rc.length) m' hS hP (a3.hd hT') a4 (by rw [a5.1, Nat.add_assoc]) (by omega) a2 (by rw [a7]; exact ho) (fun l3 => by rw [a8, if_pos (by omega)])
        refine ⟨Y, W, m2, by rw [a1, b1], b2, a3.trans b3, b4, a5.app b5, fun j hj => ⟨by rw [(b6 j hj).1, (a6 j hj).1], by rw [(b6 j hj).2, (a6 j hj).2]⟩, by rw [b7, a7], ?_⟩
        rw [b8]
        by_cases l3 : 3 ≤ l + 1
        · rw [if_pos l3, if_pos l3]
        · rw [if_neg l3, if_neg l3, a8, if_neg (by omega)]
/-- a TEST behind its sign -/
theorem y_tst2 (hT : T.1 ≤ 1000) {p2 cm x o sn : Nat} {cc rc : List Nat} {w : l_V → Int32} (h : (sn = 60 ∧ x = 24 ∧ o = 20004) ∨ (sn = 61 ∧ x = 25 ∧ o = 20005)) (g1 : p < p2) (g2 : p2 ≤ T.1) (hd : d ≤ 4) (g3 : cc.length ≤ p2 - p) (g4 : rc.length ≤ p2 - p) (g6 : k_ec (17 - 4 * d + 2) cc w) (g7 : y_e 2 (4 - d) rc w) (hs : k_is T p2 sn = true)
    (hc : ∀ k, 6 ≤ k + d → y_C T r c (y_fn r k d 2) p (.inr (p2, cc, rc, w, cm))) (hm : y_R T 2 1 0 d p (.inr (p2, cc, rc, w, cm))) (q : y_Q T r c 2 d (k_e T p2))
    (cl : ∀ k, 6 ≤ k + d → ∀ (S : z_SH) (I : z_MI) (J : z_MJ) (P : z_MP) (n : Nat × Nat), z_St S → z_Pt P → y_cl S P r c T → y_st I J T → k_C T p2 I J → ∀ v, (q_ob v 11 r).isSome = true → y_fn r k d 2 v = some (z_n 0, z_h S I J P n) → y_fn r k d 3 v = q_sq (f_Ta_advance 9 (z_h S I J P n)) fun (_ : Unit) σ => (q_ob σ 11 r).bind fun _ => q_sq (y_fn r k d 2 σ) fun y τ => (q_ob τ 11 r).bind fun _ => q_sq (f_Lr_emit r (z_n o) τ) fun (_ : Unit) ρ => some (y, ρ))
    (rf : ∀ (z : Nat) (S : z_SH) (I : z_MI) (J : z_MJ) (P : z_MP) (n : Nat × Nat), z_St S → z_Pt P → k_hd (I 83 18) (I 99) T → k_M T p2 I J → I 83 39 = z_n (4000 + z) → z ≤ p2 → I 109 d = z_n 0 → ∃ X Z, (∀ m, f_Mo_reads_L11 83 (m + 1) (z_n d) (z_n 0) (z_h S I J P n) = f_Mo_reads_L11 83 m (z_n d) (z_n 1) (z_h S X Z P n)) ∧ y_mf I J X Z ∧ k_M T (k_e T p2) X Z ∧ y_me z [x] I X ∧ X 108 = I 108 ∧ ∀ j, X 109 j = if j = d then z_n 1 else I 109 j) : y_Q T r c 3 d p := by
  have k3 := (k_is_k hs).1
  obtain ⟨kp1, kp2, kp3⟩ := k_end_p g2 (show ¬ k_k T p2 = 0 by omega)
  obtain ⟨O, g, hc2, hm2⟩ := q
  have hm2 : y_R T 2 1 0 d (k_e T p2) O := hm2
  rcases O with F | ⟨p3, cc3, rc3, w3, cm3⟩
  · have g : 0 < F ∧ F < 20000 := g
    refine ⟨.inl F, g, fun k hk => ?_, ?_⟩
    · intro S I J P n z hS hP b s kC hz zp
      obtain ⟨X, Z, a1, a2, a3, a4⟩ := hc k hk S I J P n z hS hP b s kC hz zp
      obtain ⟨Y, W, b1, b2, b3, b4⟩ := C_next (n := n) hS hP b (b.st a2 s) g2 a3
      obtain ⟨V, U, d1, d2, z', d3, d4⟩ := hc2 k hk S Y W P n (z + cc.length) hS hP b (b.st (a2.trans b2) s) b4 (by rw [b3 r b.r9.1]; exact a4.1) (by omega)
      obtain ⟨t, e1, e2, e3, -, z2, e5, e6⟩ := C_emit (J := U) (n := n) b hT d4 d3 o
      refine ⟨t, U, ?_, ((a2.trans b2).trans d2).trans e2, z2, e5, e6⟩
      rw [cl k hk S X Z P n hS hP b (b.st a2 s) a3 _ (by rw [z_ob b.1]; rfl) a1, b1, z_sq, z_ob b.1, Option.bind_some, d1, z_sq, z_ob b.1, Option.bind_some, e1, z_sq]
    · intro S I J P n z m hS hP hT' kM h39 zp hf ho h9
      obtain ⟨X, Z, m', a1, a2, a3, a4, a5, a6, a7, a8⟩ := hm S I J P n z m hS hP hT' kM h39 zp hf ho (fun l3 => absurd l3 (by omega))
      obtain ⟨m', rfl⟩ : ∃ m2, m' = m2 + 1 := ⟨m' - 1, by omega⟩
      obtain ⟨Y, W, b1, b2, b3, b4, b5, b6⟩ := rf (z + rc.length) S X Z P n hS hP (a3.hd hT') a4 (by rw [a5.1, Nat.add_assoc]) (by omega) (a8.trans ((if_neg (by decide)).trans (h9 (by decide))))
      obtain ⟨V, U, d1, d2, d3⟩ := hm2 S Y W P n (z + rc.length + 1) m' hS hP ((a3.trans b2).hd hT') b3 b4.1 (by omega) (by omega) (by rw [b5, a7]; exact ho) (fun l3 => absurd l3 (by omega))
      exact ⟨V, U, by rw [a1, b1, d1], (a3.trans b2).trans d2, d3⟩
  · obtain ⟨⟨G1, G2, G3, G4⟩, ⟨G5, G6⟩, G7, G8⟩ := g
    have L1 : (cc ++ cc3 ++ [o]).length = cc.length + cc3.length + 1 := by rw [List.length_append, List.length_append, List.length_singleton]
    have L2 : (rc ++ x :: rc3).length = rc.length + (rc3.length + 1) := by rw [List.length_append]; rfl
    refine ⟨.inr (p3, cc ++ cc3 ++ [o], rc ++ x :: rc3, fun v => k_jn o (w v) (w3 v), 1), ⟨⟨by omega, G2, by omega, by omega⟩, ⟨hd, k_ec_op (d := 17 - 4 * d + 2) (by omega) (g6.mono (by omega)) G6⟩, y_ls (by omega) g7 G7, ⟨fun _ => G8.1 (by omega), fun _ => G8.2.1 (by omega), fun _ => ⟨by omega, fun e => absurd e (by omega)⟩, fun e => absurd e (by omega)⟩⟩, fun k hk => ?_, ?_⟩
    · intro S I J P n z hS hP b s kC hz zp
      obtain ⟨X, Z, a1, a2, a3, a4⟩ := hc k hk S I J P n z hS hP b s kC hz zp
      obtain ⟨Y, W, b1, b2, b3, b4⟩ := C_next (n := n) hS hP b (b.st a2 s) g2 a3
      obtain ⟨V, U, d1, d2, d3, d4⟩ := hc2 k hk S Y W P n (z + cc.length) hS hP b (b.st (a2.trans b2) s) b4 (by rw [b3 r b.r9.1]; exact a4.1) (by omega)
      have d4' := a4.app (⟨d4.1, fun i hi => by rw [d4.2.1 i hi, b3 c b.r9.2], d4.2.2⟩ : y_em r c (z + cc.length) cc3 X V)
      obtain ⟨t, e1, e2, e3, e4, -⟩ := C_emit (J := U) (n := n) b hT d4'.1 (by rw [List.length_append]; omega) o
      refine ⟨t, U, ?_, ((a2.trans b2).trans d2).trans e2, by unfold k_C; rw [e3]; exact d3, d4'.app (e4 (by rw [List.length_append]; omega))⟩
      rw [cl k hk S X Z P n hS hP b (b.st a2 s) a3 _ (by rw [z_ob b.1]; rfl) a1, b1, z_sq, z_ob b.1, Option.bind_some, d1, z_sq, z_ob b.1, Option.bind_some, e1, z_sq]
    · intro S I J P n z m hS hP hT' kM h39 zp hf ho h9
      obtain ⟨X, Z, m', a1, a2, a3, a4, a5, a6, a7, a8⟩ := hm S I J P n z m hS hP hT' kM h39 zp hf ho (fun l3 => absurd l3 (by omega))
      obtain ⟨m', rfl⟩ : ∃ m2, m' = m2 + 1 := ⟨m' - 1, by omega⟩
      obtain ⟨Y, W, b1, b2, b3, b4, b5, b6⟩ := rf (z + rc.length) S X Z P n hS hP (a3.hd hT') a4 (by rw [a5.1, Nat.add_assoc]) (by omega) (a8.trans ((if_neg (by decide)).trans (h9 (by decide))))
      obtain ⟨V, U, m2, d1, d2, d3, d4, d5, d6, d7, d8⟩ := hm2 S Y W P n (z + rc.length + 1) m' hS hP ((a3.trans b2).hd hT') b3 b4.1 (by omega) (by omega) (by rw [b5, a7]; exact ho) (fun l3 => absurd l3 (by omega))
      refine ⟨V, U, m2, by rw [a1, b1, d1], d2, (a3.trans b2).trans d3, d4, a5.app (b4.app d5), fun j hj => ⟨by rw [(d6 j hj).1, b5, (a6 j hj).1], by rw [(d6 j hj).2, b6, if_neg (by omega), (a6 j hj).2]⟩, by rw [d7, b5, a7], ?_⟩
      exact d8.trans ((if_neg (by decide)).trans (((b6 d).trans (if_pos rfl)).trans (if_pos (by decide)).symm))
end
