/-! LAW: tests; all levels. -/
section
variable {T : k_T} {r c d p : Nat}
set_option maxRecDepth 100000 in
set_option maxHeartbeats 4000000 in
theorem y_test (hT : T.1 ≤ 1000) (hp : p ≤ T.1) (hd : d ≤ 5) (q : y_Q T r c 2 d p) (sub : ∀ p', p < p' → p' ≤ T.1 → y_Q T r c 2 d p') : y_Q T r c 3 d p := by
  obtain ⟨O, g, hc, hm⟩ := q
  have hm : y_R T 2 1 0 d p O := hm
  have n10 : (z_n 1 = (0 : Int32)) = False := eq_false (by decide)
  have z00 : (z_n 0 = (0 : Int32)) = True := eq_true rfl
  rcases O with F | ⟨p2, cc, rc, w, cm⟩
  · have g : 0 < F ∧ F < 20000 := g
    refine ⟨.inl F, g, fun k hk => ?_, ?_⟩
    · intro S I J P n z hS hP b s kC hz zp
      obtain ⟨X, Z, a1, a2, a3⟩ := hc k hk S I J P n z hS hP b s kC hz zp
      have a1 : f_Lr_parseSum (f_Lr_parsePart k) r (z_n d) (z_h S I J P n) = some (z_n F, z_h S X Z P n) := a1
      obtain ⟨v, hv⟩ := C_isSign_any (I := X) (J := Z) (P := P) (n := n) hS 60
      refine ⟨X, Z, ?_, a2, a3⟩
      show f_Lr_parseTest (f_Lr_parsePart k) r (z_n d) (z_h S I J P n) = _
      unfold f_Lr_parseTest
      rw [z_ob b.1, Option.bind_some, a1, z_sq, z_gr b.1 rfl b.2.1, Option.bind_some, z_ob (s_9 hS), Option.bind_some, hv, z_sq, if_neg (y_n0 g.1 g.2)]
    · intro S I J P n z m hS hP hT' kM h39 zp hf ho h9
      exact hm S I J P n z m hS hP hT' kM h39 zp hf ho (fun l3 => absurd l3 (by decide))
  · have gg := g
    obtain ⟨⟨g1, g2, g3, g4⟩, ⟨g5, g6⟩, g7, g8⟩ := gg
    by_cases q60 : k_is T p2 60 = true
    · have kp := k_end_p g2 (show ¬ k_k T p2 = 0 by rw [(k_is_k q60).1]; omega)
      refine y_tst2 (sn := 60) (x := 24) (o := 20004) hT (Or.inl ⟨rfl, rfl, rfl⟩) g1 g2 g5 g3 g4 g6 g7 q60 hc hm (sub _ (by omega) kp.2.2) (fun k hk S I J P n hS hP b s kC v hv e => ?_) (fun z S I J P n hS hP hT' kM h39 zp h9 => R_less hS hP hT' g2 kM h39 zp hd q60 h9)
      obtain ⟨u, hu⟩ := Option.isSome_iff_exists.mp hv
      have e : f_Lr_parseSum (f_Lr_parsePart k) r (z_n d) v = some (z_n 0, z_h S I J P n) := e
      show f_Lr_parseTest (f_Lr_parsePart k) r (z_n d) v = _
      unfold f_Lr_parseTest
      rw [hu, Option.bind_some, e, z_sq, z_gr b.1 rfl b.2.1, Option.bind_some, z_ob (s_9 hS), Option.bind_some, show (60 : Int32) = z_n 60 from rfl, C_isSign hS g2 s.2.1 kC (by omega), z_b_t q60, z_sq, if_pos (show z_n 0 = (0 : Int32) from rfl), if_neg (show ¬ z_n 1 = (0 : Int32) by decide), z_gr b.1 rfl b.2.1, Option.bind_some, z_ob (s_9 hS), Option.bind_some]
      simp only [n10, if_false, z_sq]
      rfl
    · by_cases q61 : k_is T p2 61 = true
      · have kp := k_end_p g2 (show ¬ k_k T p2 = 0 by rw [(k_is_k q61).1]; omega)
        refine y_tst2 (sn := 61) (x := 25) (o := 20005) hT (Or.inr ⟨rfl, rfl, rfl⟩) g1 g2 g5 g3 g4 g6 g7 q61 hc hm (sub _ (by omega) kp.2.2) (fun k hk S I J P n hS hP b s kC v hv e => ?_) (fun z S I J P n hS hP hT' kM h39 zp h9 => R_same hS hP hT' g2 kM h39 zp hd q61 h9)
        obtain ⟨u, hu⟩ := Option.isSome_iff_exists.mp hv
        have e : f_Lr_parseSum (f_Lr_parsePart k) r (z_n d) v = some (z_n 0, z_h S I J P n) := e
        show f_Lr_parseTest (f_Lr_parsePart k) r (z_n d) v = _
        unfold f_Lr_parseTest
        rw [hu, Option.bind_some, e, z_sq, z_gr b.1 rfl b.2.1, Option.bind_some, z_ob (s_9 hS), Option.bind_some, show (60 : Int32) = z_n 60 from rfl, C_isSign hS g2 s.2.1 kC (by omega), z_b_f q60, z_sq, if_pos (show z_n 0 = (0 : Int32) from rfl), if_pos (show z_n 0 = (0 : Int32) from rfl), z_gr b.1 rfl b.2.1, Option.bind_some, z_ob (s_9 hS), Option.bind_some, show (61 : Int32) = z_n 61 from rfl, C_isSign hS g2 s.2.1 kC (by omega), z_b_t q61, z_sq, if_neg (show ¬ z_n 1 = (0 : Int32) by decide), z_gr b.1 rfl b.2.1, Option.bind_some, z_ob (s_9 hS), Option.bind_some]
        simp only [z00, if_true, z_sq]
        rfl
      · refine ⟨.inr (p2, cc, rc, w, 0), ⟨⟨g1, g2, g3, g4⟩, ⟨g5, g6.mono (by omega)⟩, y_l3 g7, ⟨fun _ => g8.1 (by omega), fun _ => g8.2.1 (by omega), fun _ => ⟨by omega, fun _ => ⟨Bool.eq_false_iff.mpr q60, Bool.eq_false_iff.mpr q61⟩⟩, fun e => absurd e (by omega)⟩⟩, fun k hk => ?_, ?_⟩
        · intro S I J P n z hS hP b s kC hz zp
          obtain ⟨X, Z, a1, a2, a3, a4⟩ := hc k hk S I J P n z hS hP b s kC hz zp
          have a1 : f_Lr_parseSum (f_Lr_parsePart k) r (z_n d) (z_h S I J P n) = some (z_n 0, z_h S X Z P n) := a1
          refine ⟨X, Z, ?_, a2, a3, a4⟩
          show f_Lr_parseTest (f_Lr_parsePart k) r (z_n d) (z_h S I J P n) = _
          unfold f_Lr_parseTest
          rw [z_ob b.1, Option.bind_some, a1, z_sq, z_gr b.1 rfl b.2.1, Option.bind_some, z_ob (s_9 hS), Option.bind_some, show (60 : Int32) = z_n 60 from rfl, C_isSign hS g2 (b.st a2 s).2.1 a3 (by omega), z_b_f q60, z_sq, if_pos (show z_n 0 = (0 : Int32) from rfl), if_pos (show z_n 0 = (0 : Int32) from rfl), z_gr b.1 rfl b.2.1, Option.bind_some, z_ob (s_9 hS), Option.bind_some, show (61 : Int32) = z_n 61 from rfl, C_isSign hS g2 (b.st a2 s).2.1 a3 (by omega), z_b_f q61, z_sq, if_pos (show z_n 0 = (0 : Int32) from rfl)]
        · intro S I J P n z m hS hP hT' kM h39 zp hf ho h9
          obtain ⟨X, Z, m', a1, a2, a3, a4, a5, a6, a7, a8⟩ := hm S I J P n z m hS hP hT' kM h39 zp hf ho (fun l3 => absurd l3 (by decide))
          exact ⟨X, Z, m', a1, a2, a3, a4, a5, a6, a7, a8.trans ((if_neg (by decide)).trans ((h9 (by decide)).trans (if_pos (by decide)).symm))⟩
theorem y_all (hT : T.1 ≤ 1000) : ∀ (N p d : Nat), T.1 - p ≤ N → p ≤ T.1 → d ≤ 5 → y_Q T r c 0 d p ∧ y_Q T r c 1 d p ∧ y_Q T r c 2 d p ∧ y_Q T r c 3 d p ∧ y_Q T r c 4 d p := by
  intro N
  induction N with
  | zero =>
    intro p d hN hp hd
    have nx : ∀ (l e : Nat) p', p < p' → p' ≤ T.1 → y_Q T r c l e p' := fun _ _ _ _ _ => by omega
    have q0 : y_Q T r c 0 d p := y_part hT hp hd (fun _ => nx 0 _) (fun _ => nx 4 _)
    have q1 : y_Q T r c 1 d p := y_lev (y_op0 hd) (by omega) hT hp q0 (nx 0 d)
    have q2 : y_Q T r c 2 d p := y_lev (y_op1 hd) (by omega) hT hp q1 (nx 1 d)
    have q3 : y_Q T r c 3 d p := y_test hT hp hd q2 (nx 2 d)
    exact ⟨q0, q1, q2, q3, y_lev (y_op3 hd) (by omega) hT hp q3 (nx 3 d)⟩
  | succ N ih =>
    intro p d hN hp hd
    have q0 : y_Q T r c 0 d p := y_part hT hp hd (fun h p' h1 h2 => (ih p' (d + 1) (by omega) h2 (by omega)).1) (fun h p' h1 h2 => (ih p' (d + 1) (by omega) h2 (by omega)).2.2.2.2)
    have q1 : y_Q T r c 1 d p := y_lev (y_op0 hd) (by omega) hT hp q0 (fun p' h1 h2 => (ih p' d (by omega) h2 hd).1)
    have q2 : y_Q T r c 2 d p := y_lev (y_op1 hd) (by omega) hT hp q1 (fun p' h1 h2 => (ih p' d (by omega) h2 hd).2.1)
    have q3 : y_Q T r c 3 d p := y_test hT hp hd q2 (fun p' h1 h2 => (ih p' d (by omega) h2 hd).2.2.1)
    exact ⟨q0, q1, q2, q3, y_lev (y_op3 hd) (by omega) hT hp q3 (fun p' h1 h2 => (ih p' d (by omega) h2 hd).2.2.2.1)⟩
theorem y_whole (hT : T.1 ≤ 1000) (hp : p ≤ T.1) : y_Q T r c 4 0 p := (y_all hT T.1 p 0 (by omega) hp (by omega)).2.2.2.2
end
