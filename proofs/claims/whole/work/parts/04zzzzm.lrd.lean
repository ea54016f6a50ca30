/-! LAW: a chain of pieces that are joined. -/
section
variable {T : k_T} {r c d p l : Nat} {opf : Nat → Option (Nat × Nat)} {LF : Nat → Nat → Int32 → Nat → q_H → Option (Int32 × q_H)}
theorem y_part (hT : T.1 ≤ 1000) (hp : p ≤ T.1) (hd : d ≤ 5) (i0 : d ≤ 4 → ∀ p', p < p' → p' ≤ T.1 → y_Q T r c 0 (d + 1) p') (i4 : d ≤ 4 → ∀ p', p < p' → p' ≤ T.1 → y_Q T r c 4 (d + 1) p') : y_Q T r c 0 d p := by
  by_cases st : k_ix T k_w2 p < 13 ∨ k_ix T k_w2 p = 15 ∨ k_is T p 40 = true ∨ k_k T p = 2
  · by_cases d5 : d = 5
    · subst d5
      exact y_part_e5 hT hp st
    have d4 : d ≤ 4 := by omega
    rcases st with q | q | q | q
    · exact y_part_fact hT hp d4 q
    · have kp := k_end_p hp (show ¬ k_k T p = 0 by rw [(k_i2_is (show k_ix T k_w2 p < 18 by omega)).1]; omega)
      exact y_part_not hT hp d4 q (i0 d4 _ kp.2.1 kp.2.2)
    · have kp := k_end_p hp (show ¬ k_k T p = 0 by rw [(k_is_k q).1]; omega)
      exact y_part_open hT hp d4 q (i4 d4 _ kp.2.1 kp.2.2)
    · exact y_part_num hT hp d4 q
  · exact y_part_e1 hT hp hd st
theorem y_RR_y {O : y_O} (h : y_RR T l d p O) : y_R T l 1 0 d p O := by
  cases l with
  | succ l => exact h
  | zero =>
    intro S I J P n z m hS hP hT kM h39 zp hf ho _
    have h := h S I J P n z m hS hP hT kM h39 zp hf
    rcases O with F | ⟨p', cc, rc, w, cm⟩
    · exact h
    · obtain ⟨X, Z, m', a1, a2, a3, a4, a5, a6⟩ := h
      refine ⟨X, Z, m', by rw [a1, y_pp_at ho], a2, a3, a4, a5, fun j hj => a6 j (by omega), (a6 d (Nat.le_refl _)).1, ?_⟩
      rw [if_neg (by omega), (a6 d (Nat.le_refl _)).2]
def y_GL (T : k_T) (l d p : Nat) (cc rc : List Nat) (O : y_O) : Prop := match O with
  | .inl F => 0 < F ∧ F < 20000
  | .inr (p', c2, r2, w, cm) => (p ≤ p' ∧ p' ≤ T.1 ∧ c2.length ≤ p' - p ∧ r2.length ≤ p' - p) ∧ k_ec (17 - 4 * d + l) (cc ++ c2) w ∧ y_er l (4 - d) (rc ++ r2) w ∧ y_stop T l p' cm

def y_op (T : k_T) (r c l d : Nat) (opf : Nat → Option (Nat × Nat)) (LF : Nat → Nat → Int32 → Nat → q_H → Option (Int32 × q_H)) : Prop :=
  (∀ (k f i p : Nat) (S : z_SH) (I : z_MI) (J : z_MJ) (P : z_MP) (n : Nat × Nat), z_St S → z_Pt P → y_cl S P r c T → y_st I J T → p ≤ T.1 → k_C T p I J → i < 1000 →
    (∀ x o, opf p = some (x, o) → LF k (f + 1) (z_n 0) i (z_h S I J P n) = q_sq (f_Ta_advance 9 (z_h S I J P n)) fun (_ : Unit) σ => (q_ob σ 11 r).bind fun _ => q_sq (y_fn r k d l σ) fun y τ => (q_ob τ 11 r).bind fun _ => q_sq (f_Lr_emit r (z_n o) τ) fun (_ : Unit) ρ => LF k f y (i + 1) ρ) ∧
    (opf p = none → LF k (f + 1) (z_n 0) i (z_h S I J P n) = some (z_n 0, z_h S I J P n))) ∧
  (∀ k f F i σ, 0 < F → F < 20000 → LF k (f + 1) (z_n F) i σ = some (z_n F, σ)) ∧
  (∀ (p z x o : Nat) (S : z_SH) (I : z_MI) (J : z_MJ) (P : z_MP) (n : Nat × Nat), z_St S → z_Pt P → k_hd (I 83 18) (I 99) T → p ≤ T.1 → k_M T p I J → I 83 39 = z_n (4000 + z) → z ≤ p → opf p = some (x, o) → ∃ X Z, (∀ m, f_Mo_reads_L11 83 (m + 1) (z_n d) (z_n 0) (z_h S I J P n) = f_Mo_reads_L11 83 m (z_n d) (z_n 1) (z_h S X Z P n)) ∧ y_mf I J X Z ∧ k_M T (k_e T p) X Z ∧ y_me z [x] I X ∧ (∀ j, X 108 j = I 108 j) ∧ (∀ j, j < d → X 109 j = I 109 j) ∧ X 109 d = if 3 ≤ l then z_n 0 else I 109 d) ∧
  (∀ p c0, opf p = none → y_stop T l p c0 → y_stop T (l + 1) p c0) ∧
  (∀ p x o, opf p = some (x, o) → ¬ k_k T p = 0 ∧ (20001 < o ∧ o < 20009) ∧ ∀ m rc w r2 w2, y_e (l + 1) m rc w → y_er l m r2 w2 → y_e (l + 1) m (rc ++ x :: r2) (fun v => k_jn o (w v) (w2 v))) ∧
  (∀ m rc w, y_er l m rc w → y_e (l + 1) m rc w) ∧
  ∀ k σ, y_fn r k d (l + 1) σ = (q_ob σ 11 r).bind fun _ => q_sq (y_fn r k d l σ) fun y τ => LF k q_FU y 0 τ
theorem y_loop0 (h : y_op T r c l d opf LF) (l2 : ¬ l = 2) (hT : T.1 ≤ 1000) {p' c0 : Nat} {cc rc : List Nat} {w : l_V → Int32} (pT : p' ≤ T.1) (q : opf p' = none) (st : y_stop T l p' c0) (ec : k_ec (17 - 4 * d + (l + 1)) cc w) (er : y_e (l + 1) (4 - d) rc w) :
    ∃ O, y_GL T (l + 1) d p' cc rc O ∧ (∀ k, 6 ≤ k + d → ∀ f i, i < p' → T.1 < f + p' → y_C T r c (LF k f (z_n 0) i) p' O) ∧ y_R T (l + 1) 0 c0 d p' O := by
  obtain ⟨hA, hB, hC, hD, hE, hF, hG⟩ := h
  refine ⟨.inr (p', [], [], w, c0), ⟨⟨Nat.le_refl _, pT, Nat.zero_le _, Nat.zero_le _⟩, by rw [List.append_nil]; exact ec, by rw [List.append_nil]; exact er, hD p' c0 q st⟩, fun k hk f i hi hf => ?_, ?_⟩
  · intro S I J P n z hS hP b s kC hz zp
    obtain ⟨f, rfl⟩ : ∃ f', f = f' + 1 := ⟨f - 1, by omega⟩
    exact ⟨I, J, (hA k f i p' S I J P n hS hP b s pT kC (by omega)).2 q, y_cf.rfl' r c I J, kC, y_em.nil hz rfl⟩
  · intro S I J P n z m hS hP hT' kM h39 zp hf ho h9
    refine ⟨I, J, m, rfl, hf, y_mf.rfl' I J, kM, ⟨by rw [h39]; rfl, fun _ _ => rfl, fun i hi => absurd hi (Nat.not_lt_zero _)⟩, fun _ _ => ⟨rfl, rfl⟩, rfl, ?_⟩
    by_cases l3 : 3 ≤ l + 1
    · rw [if_pos l3, h9 l3]
    · rw [if_neg l3]
theorem y_loop (h : y_op T r c l d opf LF) (l2 : ¬ l = 2) (hT : T.1 ≤ 1000) (h4 : d ≤ 4) (sub : ∀ p', p < p' → p' ≤ T.1 → y_Q T r c l d p') : ∀ (N p' c0 : Nat) (cc rc : List Nat) (w : l_V → Int32), T.1 - p' ≤ N → p < p' → p' ≤ T.1 → y_stop T l p' c0 → k_ec (17 - 4 * d + (l + 1)) cc w → y_e (l + 1) (4 - d) rc w →
    ∃ O, y_GL T (l + 1) d p' cc rc O ∧ (∀ k, 6 ≤ k + d → ∀ f i, i < p' → T.1 < f + p' → y_C T r c (LF k f (z_n 0) i) p' O) ∧ y_R T (l + 1) 0 c0 d p' O := by
  intro N
  induction N with
  | zero =>
    intro p' c0 cc rc w hN pp pT st ec er
    cases q : opf p' with
    | some xo =>
      obtain ⟨x, o⟩ := xo
      have := k_end_p pT (h.2.2.2.2.1 p' x o q).1
      omega
    | none => exact y_loop0 h l2 hT pT q st ec er
  | succ N ih =>
    intro p' c0 cc rc w hN pp pT st ec er
    cases q : opf p' with
    | none => exact y_loop0 h l2 hT pT q st ec er
    | some xo =>
      obtain ⟨x, o⟩ := xo
      obtain ⟨hA, hB, hC, hD, hE, hF, hG⟩ := h
      obtain ⟨k0, ho, hE⟩ := hE p' x o q
      obtain ⟨kp1, kp2, kp3⟩ := k_end_p pT k0
      obtain ⟨O1, g1, c1, m1⟩ := sub (k_e T p') (by omega) kp3
      have m1 := y_RR_y m1
      rcases O1 with F | ⟨p2, cc2, rc2, w2, cm2⟩
      · have g1 : 0 < F ∧ F < 20000 := g1
        refine ⟨.inl F, g1, fun k hk f i hi hf => ?_, ?_⟩
        · intro S I J P n z hS hP b s kC hz zp
          obtain ⟨f, rfl⟩ : ∃ f', f = f' + 1 + 1 := ⟨f - 2, by omega⟩
          obtain ⟨X, Z, a1, a2, a3, a4⟩ := C_next (n := n) hS hP b s pT kC
          obtain ⟨Y, W, b1, b2, z', b3, b4⟩ := c1 k hk S X Z P n z hS hP b (b.st a2 s) a4 (by rw [a3 r b.r9.1]; exact hz) (by omega)
          obtain ⟨V, e1, e2, e3, -, z2, e5, e6⟩ := C_emit (J := W) (n := n) b hT b4 b3 o
          refine ⟨V, W, ?_, (a2.trans b2).trans e2, z2, e5, e6⟩
          rw [(hA k (f + 1) i p' S I J P n hS hP b s pT kC (by omega)).1 x o q, a1, z_sq, z_ob b.1, Option.bind_some, b1, z_sq, z_ob b.1, Option.bind_some, e1, z_sq, hB k f F (i + 1) _ g1.1 g1.2]
        · intro S I J P n z m hS hP hT' kM h39 zp hf ho' h9
          obtain ⟨m, rfl⟩ : ∃ m', m = m' + 1 := ⟨m - 1, by omega⟩
          obtain ⟨X, Z, a1, a2, a3, a4, a5, a6, a7⟩ := hC p' z x o S I J P n hS hP hT' pT kM h39 zp q
          obtain ⟨Y, W, b1, b2, b3⟩ := m1 S X Z P n (z + 1) m hS hP (a2.hd hT') a3 a4.1 (by omega) (by omega) (by rw [a5]; exact ho') (fun l3 => by rw [a7, if_pos l3])
          exact ⟨Y, W, by rw [a1, b1], a2.trans b2, b3⟩
      · obtain ⟨⟨g1, g2, g3, g4⟩, ⟨g5, g6⟩, g7, g8⟩ := g1
        have ec2 := k_ec_op (o := o) ho (d := 17 - 4 * d + l) ec g6
        have er2 := hE (4 - d) rc w rc2 w2 er g7
        obtain ⟨O2, G, C2, M2⟩ := ih p2 cm2 (cc ++ cc2 ++ [o]) (rc ++ x :: rc2) (fun v => k_jn o (w v) (w2 v)) (by omega) (by omega) g2 g8 ec2 er2
        rcases O2 with F | ⟨p3, cc3, rc3, w3, cm3⟩
        · have G : 0 < F ∧ F < 20000 := G
          refine ⟨.inl F, G, fun k hk f i hi hf => ?_, ?_⟩
          · intro S I J P n z hS hP b s kC hz zp
            obtain ⟨f, rfl⟩ : ∃ f', f = f' + 1 := ⟨f - 1, by omega⟩
            obtain ⟨X, Z, a1, a2, a3, a4⟩ := C_next (n := n) hS hP b s pT kC
            obtain ⟨Y, W, b1, b2, b3, b4⟩ := c1 k hk S X Z P n z hS hP b (b.st a2 s) a4 (by rw [a3 r b.r9.1]; exact hz) (by omega)
            obtain ⟨V, e1, e2, e3, e4, -⟩ := C_emit (J := W) (n := n) b hT b4.1 (by omega) o
            have e4 := b4.app (e4 (by omega))
            obtain ⟨U, t, u1, u2, z2, u3, u4⟩ := C2 k hk f (i + 1) (by omega) (by omega) S V W P n (z + (cc2 ++ [o]).length) hS hP b (b.st ((a2.trans b2).trans e2) s) (by unfold k_C; rw [e3]; exact b3) e4.1 (by rw [List.length_append, List.length_singleton]; omega)
            refine ⟨U, t, ?_, ((a2.trans b2).trans e2).trans u2, z2, u3, u4⟩
            rw [(hA k f i p' S I J P n hS hP b s pT kC (by omega)).1 x o q, a1, z_sq, z_ob b.1, Option.bind_some, b1, z_sq, z_ob b.1, Option.bind_some, e1, z_sq, u1]
          · intro S I J P n z m hS hP hT' kM h39 zp hf ho' h9
            obtain ⟨m, rfl⟩ : ∃ m', m = m' + 1 := ⟨m - 1, by omega⟩
            obtain ⟨X, Z, a1, a2, a3, a4, a5, a6, a7⟩ := hC p' z x o S I J P n hS hP hT' pT kM h39 zp q
            obtain ⟨Y, W, m', b1, b2, b3, b4, b5, b6, b7, b8⟩ := m1 S X Z P n (z + 1) m hS hP (a2.hd hT') a3 a4.1 (by omega) (by omega) (by rw [a5]; exact ho') (fun l3 => by rw [a7, if_pos l3])
            have b5 := a4.app b5
            obtain ⟨V, U, u1, u2, u3⟩ := M2 S Y W P n (z + ([x] ++ rc2).length) m' hS hP ((a2.trans b3).hd hT') b4 (by rw [b5.1, Nat.add_assoc]) (by rw [List.length_append, List.length_singleton]; omega) b2 (by rw [b7, a5]; exact ho') (fun l3 => by rw [b8, if_pos (by omega)])
            exact ⟨V, U, by rw [a1, b1, u1], (a2.trans b3).trans u2, u3⟩
        · obtain ⟨⟨G1, G2, G3, G4⟩, G5, G6, G7⟩ := G
          have L1 : (cc2 ++ [o] ++ cc3).length = cc2.length + 1 + cc3.length := by rw [List.length_append, List.length_append, List.length_singleton]
          have L2 : ([x] ++ rc2 ++ rc3).length = 1 + rc2.length + rc3.length := by rw [List.length_append, List.length_append, List.length_singleton]
          have E1 : cc ++ (cc2 ++ [o] ++ cc3) = cc ++ cc2 ++ [o] ++ cc3 := by rw [← List.append_assoc, ← List.append_assoc]
          have E2 : rc ++ ([x] ++ rc2 ++ rc3) = rc ++ x :: rc2 ++ rc3 := by rw [← List.append_assoc]; rfl
          refine ⟨.inr (p3, cc2 ++ [o] ++ cc3, [x] ++ rc2 ++ rc3, w3, cm3), ⟨⟨by omega, G2, by omega, by omega⟩, by rw [E1]; exact G5, by rw [E2]; exact G6, G7⟩, fun k hk f i hi hf => ?_, ?_⟩
          · intro S I J P n z hS hP b s kC hz zp
            obtain ⟨f, rfl⟩ : ∃ f', f = f' + 1 := ⟨f - 1, by omega⟩
            obtain ⟨X, Z, a1, a2, a3, a4⟩ := C_next (n := n) hS hP b s pT kC
            obtain ⟨Y, W, b1, b2, b3, b4⟩ := c1 k hk S X Z P n z hS hP b (b.st a2 s) a4 (by rw [a3 r b.r9.1]; exact hz) (by omega)
            obtain ⟨V, e1, e2, e3, e4, -⟩ := C_emit (J := W) (n := n) b hT b4.1 (by omega) o
            have e4 := b4.app (e4 (by omega))
            obtain ⟨U, t, u1, u2, u3, u4⟩ := C2 k hk f (i + 1) (by omega) (by omega) S V W P n (z + (cc2 ++ [o]).length) hS hP b (b.st ((a2.trans b2).trans e2) s) (by unfold k_C; rw [e3]; exact b3) e4.1 (by rw [List.length_append, List.length_singleton]; omega)
            have u5 := e4.app u4
            refine ⟨U, t, ?_, ((a2.trans b2).trans e2).trans u2, u3, u5.1, fun j hj => by rw [u5.2.1 j hj, a3 c b.r9.2], u5.2.2⟩
            rw [(hA k f i p' S I J P n hS hP b s pT kC (by omega)).1 x o q, a1, z_sq, z_ob b.1, Option.bind_some, b1, z_sq, z_ob b.1, Option.bind_some, e1, z_sq, u1]
          · intro S I J P n z m hS hP hT' kM h39 zp hf ho' h9
            obtain ⟨m, rfl⟩ : ∃ m', m = m' + 1 := ⟨m - 1, by omega⟩
            obtain ⟨X, Z, a1, a2, a3, a4, a5, a6, a7⟩ := hC p' z x o S I J P n hS hP hT' pT kM h39 zp q
            obtain ⟨Y, W, m', b1, b2, b3, b4, b5, b6, b7, b8⟩ := m1 S X Z P n (z + 1) m hS hP (a2.hd hT') a3 a4.1 (by omega) (by omega) (by rw [a5]; exact ho') (fun l3 => by rw [a7, if_pos l3])
            have b5 := a4.app b5
            obtain ⟨V, U, m2, u1, u2, u3, u4, u5, u6, u7, u8⟩ := M2 S Y W P n (z + ([x] ++ rc2).length) m' hS hP ((a2.trans b3).hd hT') b4 (by rw [b5.1, Nat.add_assoc]) (by rw [List.length_append, List.length_singleton]; omega) b2 (by rw [b7, a5]; exact ho') (fun l3 => by rw [b8, if_pos (by omega)])
            refine ⟨V, U, m2, by rw [a1, b1, u1], u2, (a2.trans b3).trans u3, u4, b5.app u5, fun j hj => ⟨by rw [(u6 j hj).1, (b6 j hj).1, a5], by rw [(u6 j hj).2, (b6 j hj).2, a6 j hj]⟩, by rw [u7, b7, a5], ?_⟩
            rw [u8]
            by_cases l3 : 3 ≤ l + 1
            · rw [if_pos l3, if_pos l3]
            · rw [if_neg l3, if_neg l3, b8, if_neg (by omega), a7, if_neg (by omega)]
end
