/-! READ: the class reads all lines: the loop. -/
theorem k_sq3 {A B C : Type} {r : B} {τ : q_H} (o : Option (A × q_H)) (b : A → q_H → Option (B × q_H)) (h : (q_sq o fun a σ => q_sq (b a σ) fun t s => some (t, s)) = some (r, τ)) (k : B → q_H → Option (C × q_H)) : (q_sq o fun a σ => q_sq (b a σ) k) = k r τ := by
  rcases o with _ | ⟨a, σ⟩
  · cases h
  · rw [z_sq] at h ⊢
    rcases e : b a σ with _ | ⟨t, s⟩
    · rw [e] at h; cases h
    · rw [e, z_sq] at h
      cases h
      rw [z_sq]
theorem k_all_s (T : k_T) (f p : Nat) (D : z_D) : k_all T (f + 1) p D = if k_k T p = 0 then .inr (p, D) else if ¬ (k_ix T k_w1 p = 8 ∨ k_ix T k_w1 p = 9) then .inl (k_fl T 1 p) else if D.1 = 12 then .inl (k_fl T 5 p) else
      (match k_line T p (if k_ix T k_w1 p = 9 then z_n 1 else z_n 0) D with
        | .inl F => .inl F
        | .inr (p2, D2) => k_all T f p2 (D2.1 + 1, D2.2)) := by
  rw [k_all]
  unfold k_line
  generalize k_head T p (if k_ix T k_w1 p = 9 then z_n 1 else z_n 0) D = O
  rcases O with F | ⟨p', D'⟩ <;> rfl
section
variable {S : z_SH} {P : z_MP} {K : Nat → Bool} {n : Nat × Nat} {T : k_T} {r g : Nat}
def k_pS (S : z_SH) (P : z_MP) (n : Nat × Nat) (T : k_T) (r g f m i : Nat) : Prop := ∀ p (D : z_D) (I : z_MI) (J : z_MJ), D.1 = i → p ≤ T.1 → k_st I J T → I 9 2 = z_n p → k_pz I J g D → d_ok D →
    ∃ r' X Z, f_Sr_parse_L9 r m (z_n i) (z_h S I J P n) = some (.inl r', z_h S X Z P n) ∧ k_fr g I J X Z ∧ k_af g r' X Z (k_all T f p D)
set_option maxRecDepth 100000 in
set_option maxHeartbeats 4000000 in
theorem C_parseS (hS : z_St S) (hP : z_Pt P) (h : k_cl S P r g) (hT : T.1 ≤ 1000) (f m i : Nat) (hi : i < 13) (ih : k_pS S P n T r g f m (i + 1)) : k_pS S P n T r g (f + 1) (m + 1) i := by
  intro p D I J hl hp s h2 pz ok
  obtain ⟨X1, Z1, a1, a2, a3, a4, a5⟩ := C_adv (J := J) (n := n) hS hP s.1 s.2.1 hp h2
  have fr1 : k_fr g I J X1 Z1 := k_fr_9 a2 a3 a4
  have s1 := fr1.st h.2.2.2.2.2 s
  have pz1 := pz.f h.2.2.2.2.2 a2 a4
  have r0 : ∀ I J, q_gr (q_gf (z_h S I J P n) 7 r 0) = some 9 := fun _ _ => z_gr h.2.1 rfl h.2.2.1
  have r1 : ∀ I J, q_gr (q_gf (z_h S I J P n) 7 r 1) = some 11 := fun _ _ => z_gr h.2.1 rfl h.2.2.2.1
  have r2 : ∀ I J, q_gr (q_gf (z_h S I J P n) 7 r 2) = some g := fun _ _ => z_gr h.2.1 rfl h.2.2.2.2.1
  have o9 := fun I J => z_ob (I := I) (J := J) (P := P) (n := n) (s_9 hS)
  have o7 := fun I J => z_ob (I := I) (J := J) (P := P) (n := n) h.2.1
  have w0 := fun I J v => z_sfi (I := I) (J := J) (P := P) (n := n) (v := v) (i := 0) h.1.1 (by have := h.2.2.2.2.2; omega) rfl
  have r3 : q_gi (q_gf (z_h S X1 Z1 P n) 1 9 3) = some (z_n (k_k T p)) := by rw [z_gi (s_9 hS) rfl, a5.2.1]
  have ft := C_fault (I := X1) (J := Z1) (P := P) (n := n) hS a5.2.2.1
  have w := C_wordIn (n := n) (w := k_w1) hS hP (s_11 hS) (by decide) (fun i hi => s1.2.2.1 i hi) a5
  have le := k_ix_le T k_w1 p
  have l10 : k_w1.length = 10 := rfl
  rw [l10] at w le
  have kk : k_k T p ≤ 4 := by unfold k_k; repeat (first | omega | split)
  have i8 : ¬ z_n 12 < z_n i := by rw [z_lt (by omega) (by omega)]; omega
  have fl1 := k_fl_ok (c := 1) hT hp (by omega) (by omega)
  have fl5 := k_fl_ok (c := 5) hT hp (by omega) (by omega)
  have ln := fun (l12 : D.1 < 12) (sx : Nat) (hx : sx ≤ 1) => C_line (n := n) (sx := sx) hS hP h hT s1 hp a5.1 pz1 l12 hx
  rw [k_all_s]
  unfold f_Sr_parse_L9
  rw [show (12 : Int32) = z_n 12 from rfl, if_neg i8, r0, Option.bind_some, o9, Option.bind_some, a1, z_sq, r0, Option.bind_some, r3, Option.bind_some, show (0 : Int32) = z_n 0 from rfl]
  by_cases q : k_k T p = 0
  · rw [if_pos q, if_pos (by rw [q])]
    exact ⟨_, X1, Z1, rfl, fr1, rfl, ok, pz1.1⟩
  rw [if_neg q, if_neg (by rw [z_eq (by omega) (by omega)]; exact q), Option.bind_some, r1, Option.bind_some, o9, Option.bind_some, w, z_sq]
  generalize k_ix T k_w1 p = x at *
  rw [show (8 : Int32) = z_n 8 from rfl, show (9 : Int32) = z_n 9 from rfl]
  -- what comes behind a line
  have tl : ∀ (l12 : D.1 < 12) (sx : Nat) (hx : sx ≤ 1), ∃ r' X Z, ((q_ob (z_h S X1 Z1 P n) 7 r).bind fun w23 => q_sq (f_Sr_parseHead r (z_n i) (z_n sx) (z_h S X1 Z1 P n)) fun x25 σ24 => q_sq (if x25 = z_n 0 then ((q_ob σ24 7 r).bind fun w27 => q_sq (f_Sr_parseTags r (z_n i) σ24) fun x29 σ28 => some (x29, σ28)) else (some (x25, σ24))) fun (t30 : Int32) σ31 => if t30 = z_n 0 then ((q_gr (q_gf σ31 7 r 2)).bind fun x33 => (q_sf σ31 8 x33 0 (.int (z_n i + (1 : Int32)))).bind fun σ34 => f_Sr_parse_L9 r m (z_n i + (1 : Int32)) σ34) else (some (.inl t30, σ31))) = some (.inl r', z_h S X Z P n) ∧ k_fr g I J X Z ∧ k_af g r' X Z (match k_line T p (z_n sx) D with
        | .inl F => .inl F
        | .inr (p2, D2) => k_all T f p2 (D2.1 + 1, D2.2)) := by
    intro l12 sx hx
    obtain ⟨r', X, Z, b1, b2, b3⟩ := ln l12 sx hx
    rw [hl] at b1
    have b1' : (q_sq (f_Sr_parseHead r (z_n i) (z_n sx) (z_h S X1 Z1 P n)) fun x25 σ24 => q_sq (if x25 = z_n 0 then ((q_ob σ24 7 r).bind fun w27 => q_sq (f_Sr_parseTags r (z_n i) σ24) fun x29 σ28 => some (x29, σ28)) else (some (x25, σ24))) fun (t30 : Int32) σ31 => if t30 = z_n 0 then ((q_gr (q_gf σ31 7 r 2)).bind fun x33 => (q_sf σ31 8 x33 0 (.int (z_n i + (1 : Int32)))).bind fun σ34 => f_Sr_parse_L9 r m (z_n i + (1 : Int32)) σ34) else (some (.inl t30, σ31))) = if r' = z_n 0 then ((q_gr (q_gf (z_h S X Z P n) 7 r 2)).bind fun x33 => (q_sf (z_h S X Z P n) 8 x33 0 (.int (z_n i + (1 : Int32)))).bind fun σ34 => f_Sr_parse_L9 r m (z_n i + (1 : Int32)) σ34) else (some (.inl r', z_h S X Z P n)) := by
      exact k_sq3 _ _ b1 _
    rw [o7, Option.bind_some, b1']
    generalize k_line T p (z_n sx) D = O at *
    rcases O with F | ⟨p2, D2⟩
    · obtain ⟨e1, e2, e3⟩ := b3
      rw [e1, if_neg (by rw [z_eq (by omega) (by omega)]; omega)]
      exact ⟨_, X, Z, rfl, fr1.trans b2, rfl, e2, e3⟩
    · obtain ⟨e1, e2, e3, e4, e5, e6, e7⟩ := b3
      rw [e1, if_pos rfl, r2, Option.bind_some, show (1 : Int32) = z_n 1 from rfl, z_n_add, w0, Option.bind_some]
      have hg := h.2.2.2.2.2
      have fr2 : k_fr g I J (z_up X g 0 (z_n (i + 1))) Z := (fr1.trans b2).trans (k_fr_i (k := 0) (by omega) hg 0)
      have pz2 : k_pz (z_up X g 0 (z_n (i + 1))) Z g (D2.1 + 1, D2.2) := by
        rw [← hl, ← e2]
        rw [← e2] at e3
        exact z_pd.add e3 hg
      obtain ⟨r3, X3, Z3, g1, g2, g3⟩ := ih p2 (D2.1 + 1, D2.2) (z_up X g 0 (z_n (i + 1))) Z (by show D2.1 + 1 = i + 1; omega) e5 (fr2.st hg s) (by rw [z_up_a (by omega)]; exact e4) pz2 (k_rc.ok (e6.ok ok) e7 (by omega))
      exact ⟨r3, X3, Z3, g1, fr2.trans g2, g3⟩
  by_cases q8 : x = 8
  · subst q8
    rw [if_pos (show 8 < 10 by omega), if_pos rfl, if_neg (show ¬ ¬ (8 = 8 ∨ 8 = 9) from fun e => e (Or.inl rfl))]
    by_cases q12 : i = 12
    · rw [hl, if_pos q12, if_pos (by rw [q12]), r0, Option.bind_some, o9, Option.bind_some, show (5 : Int32) = z_n 5 from rfl, ft, z_sq]
      exact ⟨_, X1, Z1, rfl, fr1, rfl, fl5.1, fl5.2⟩
    · rw [hl, if_neg q12, if_neg (by rw [z_eq (by omega) (by omega)]; exact q12), if_neg (show ¬ z_n 8 = z_n 9 by decide), z_sq, if_neg (show ¬ 8 = 9 by decide)]
      exact tl (by omega) 0 (by omega)
  · by_cases q9 : x = 9
    · subst q9
      rw [if_pos (show 9 < 10 by omega), if_neg (show ¬ z_n 9 = z_n 8 by decide), if_pos rfl, if_neg (show ¬ ¬ (9 = 8 ∨ 9 = 9) from fun e => e (Or.inr rfl))]
      by_cases q12 : i = 12
      · rw [hl, if_pos q12, if_pos (by rw [q12]), r0, Option.bind_some, o9, Option.bind_some, show (5 : Int32) = z_n 5 from rfl, ft, z_sq]
        exact ⟨_, X1, Z1, rfl, fr1, rfl, fl5.1, fl5.2⟩
      · rw [hl, if_neg q12, if_neg (by rw [z_eq (by omega) (by omega)]; exact q12), if_pos rfl, z_sq, if_pos rfl]
        exact tl (by omega) 1 (by omega)
    · have n8 : ¬ (if x < 10 then z_n x else -z_n 1) = z_n 8 := by
        split
        · rw [z_eq (by omega) (by omega)]; exact q8
        · decide
      have n9 : ¬ (if x < 10 then z_n x else -z_n 1) = z_n 9 := by
        split
        · rw [z_eq (by omega) (by omega)]; exact q9
        · decide
      rw [if_neg n8, if_neg n9, if_pos (show ¬ (x = 8 ∨ x = 9) by omega), r0, Option.bind_some, o9, Option.bind_some, show (1 : Int32) = z_n 1 from rfl, ft, z_sq]
      exact ⟨_, X1, Z1, rfl, fr1, rfl, fl1.1, fl1.2⟩
theorem C_parseL (hS : z_St S) (hP : z_Pt P) (h : k_cl S P r g) (hT : T.1 ≤ 1000) : ∀ f m i, f ≤ m → f + i = 13 → k_pS S P n T r g f m i
  | 0, m, i, hm, hi => fun p D I J hl hp s h2 pz ok => by
    have := ok.1
    omega
  | f + 1, 0, i, hm, hi => absurd hm (by omega)
  | f + 1, m + 1, i, hm, hi => C_parseS hS hP h hT f m i (by omega) (C_parseL hS hP h hT f m (i + 1) (by omega) (by omega))
end
