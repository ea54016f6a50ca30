/-! READ: the class's call. -/
section
variable {S : z_SH} {I : z_MI} {J : z_MJ} {P : z_MP} {K : Nat → Bool} {n : Nat}
def k_Kn (K : Nat → Bool) (n : Nat) : Nat → Bool := fun a => K a && decide (a < n)
theorem k_Kn_f {a : Nat} (h : K a = false) : k_Kn K n a = false := by unfold k_Kn; rw [h]; rfl
theorem k_Kn_n {a : Nat} (h : n ≤ a) : k_Kn K n a = false := by unfold k_Kn; rw [decide_eq_false (by omega), Bool.and_false]
theorem z_pg.kn {p m : Nat} {D : z_D} (h : z_pg S I J P K m p D) : z_pg S I J P (k_Kn K n) m p D := ⟨⟨h.1.1, h.1.2.1, fun j hj => k_Kn_f (h.1.2.2 j hj)⟩, h.2⟩
theorem Inv.kn (H : Inv S I J P K n) : Inv S I J P (k_Kn K n) n := by
  obtain ⟨B, ho, ht, hm, hl, hc⟩ := H
  obtain ⟨b1, b2, ⟨b3, b4⟩, b5, b6, b7⟩ := B
  refine ⟨⟨b1, b2, ⟨b3, fun a ha => b4 a (by unfold k_Kn at ha; exact (Bool.and_eq_true _ _ ▸ ha).1)⟩, b5, b6, fun s hs => ?_⟩, ho, ht, fun m hm' => ?_, fun k hk => ?_, hc⟩
  · rcases b7 s hs with q | ⟨q1, p, q2, q3⟩
    · exact Or.inl q
    · exact Or.inr ⟨q1, p, q2, q3.kn⟩
  · rcases hm m hm' with q | ⟨q1, q2, q3, q4⟩
    · exact Or.inl q
    · refine Or.inr ⟨q1, q2, fun s hs => ?_, q4⟩
      obtain ⟨a, r, v, c, y, x1, x2, x3, x4, x5⟩ := q3 s hs
      refine ⟨a, r, v, c, y, x1, x2, x3, x4, ?_⟩
      rcases x5 with e | ⟨e1, p, e2, e3⟩
      · exact Or.inl e
      · exact Or.inr ⟨e1, p, e2, e3.kn⟩
  · obtain ⟨q, c, t, m, z, N, w, h1, ⟨⟨a1, a2, a3, a4⟩, ⟨c1, c2, c3, c4⟩, ⟨t1, t2, t3⟩⟩, h3⟩ := hl k hk
    exact ⟨q, c, t, m, z, N, w, h1, ⟨⟨a1, a2, a3, k_Kn_f a4⟩, ⟨c1, c2, c3, k_Kn_f c4⟩, ⟨t1, t2, by unfold k_Kn; rw [t3, decide_eq_true t2]; rfl⟩⟩, h3⟩
end
section
variable {S : z_SH} {I : z_MI} {J : z_MJ} {P : z_MP} {K : Nat → Bool} {n : Nat × Nat} {T : k_T}
/-- what the class's call leaves: O what was read -/
def k_rd (S : z_SH) (I : z_MI) (J : z_MJ) (P : z_MP) (K : Nat → Bool) (n : Nat × Nat) (s : Nat) (r : Int32) (S' : z_SH) (X : z_MI) (Z : z_MJ) (P' : z_MP) (O : k_O) : Prop :=
  (∀ a, a < n.1 → S' a = S a ∧ (a ≠ 9 → Z a = J a) ∧ (a ≠ 18 → P' a = P a) ∧ (a ≠ 9 → a ≠ 22 → X a = I a)) ∧ X 9 1 = z_n 0 ∧ (match O with
    | .inl F => r = z_n F ∧ (0 < F ∧ F < 20000) ∧ P' 18 = P 18 ∧ X 22 = I 22
    | .inr (_, D') => r = z_n 0 ∧ d_ok D' ∧ (∀ i, P' 18 i = if i = s then some (n.1 + 1) else P 18 i) ∧ X 22 0 = z_n 1 ∧ (z_ps S' P' (n.1 + 1) ∧ z_pd X Z (n.1 + 1) D' ∧ z_pt X (n.1 + 1) D'))
set_option maxRecDepth 100000 in
set_option maxHeartbeats 4000000 in
theorem C_read (H : Inv S I J P K n.1) {s : Nat} (hs : s < 24) (told : ¬ I 85 s = z_n 0) (hT : k_hd (I 9 1) (I 10) T) : ∃ r S' X Z P', f_Rs_read 8 (z_n s) (z_h S I J P n) = some (r, z_h S' X Z P' (n.1 + 14, n.2 + 151)) ∧ k_rd S I J P K n s r S' X Z P' (k_all T 13 0 k_D0) := by
  have B := H.1
  have hS := B.qS
  have hP := B.qP
  have n131 := B.2.2.1.1
  have hc := H.2.2.2.2.2
  have ti := C_isTold (n := n) B hs
  rw [z_b_t told] at ti
  obtain ⟨S1, I1, J1, P1, a1, a2, a3, a4, a5, a6⟩ := C_rinit (S := S) (I := I) (J := J) (P := P) (n := n) n131
  have hS1 := hS.mono a2 n131
  have hP1 := hP.mono a2 n131
  have ag := fun a (ha : a < n.1) => a2 a ha
  have st : k_st I1 J1 T := by
    obtain ⟨c1, c2, c3, c4, c5⟩ := hc
    have e := fun a (ha : a < 131) => (ag a (by omega)).2 rfl
    refine ⟨⟨fun i hi => ?_, ?_⟩, ?_, fun i hi => ?_, fun i hi => ?_⟩
    · rw [(e 7 (by omega)).1]; exact c4 i hi
    · rw [(e 4 (by omega)).1]; exact c5
    · rw [(e 9 (by omega)).1, (e 10 (by omega)).1]; exact hT
    · rw [(e 11 (by omega)).2]; exact c1 i hi
    · rw [(e 1 (by omega)).1]; exact c3 i hi
  obtain ⟨r', X, Z, b1, b2, b3⟩ := C_parse (n := (n.1 + 14, n.2 + 151)) (T := T) hS1 hP1 a3 hT.1 st a4 a5
  have o7 := fun I J (P : z_MP) m => z_ob (S := S1) (I := I) (J := J) (P := P) (n := m) a3.2.1
  have g3 : q_gr (q_gf (z_h S I J P n) 0 8 3) = some 13 := z_gr (s_8 hS) rfl (p_8_3 hP)
  have g0 : ∀ I J m, q_gr (q_gf (z_h S1 I J P1 m) 0 8 0) = some 9 := fun _ _ _ => z_gr (s_8 hS1) rfl (p_8_0 hP1)
  have g1 : ∀ I J m, q_gr (q_gf (z_h S1 I J P1 m) 0 8 1) = some 11 := fun _ _ _ => z_gr (s_8 hS1) rfl (p_8_1 hP1)
  have o13 := z_ob (I := I) (J := J) (P := P) (n := n) (s_13 hS)
  have w9 := fun I J m v => z_sfi (S := S1) (I := I) (J := J) (P := P1) (n := m) (i := 1) (v := v) (s_9 hS1) (by decide) rfl
  have lo : ∀ a, a < n.1 → a ≠ 9 → X a = I a ∧ Z a = J a := fun a ha h9 => by
    obtain ⟨c1, c2⟩ := b2.1 a h9 (by omega)
    obtain ⟨d1, d2⟩ := (ag a ha).2 rfl
    exact ⟨c1.trans d1, c2.trans d2⟩
  have mk : ∀ K : q_H → Nat → Option (Int32 × q_H), q_ma (z_h S I J P n) 7 [.null, .null, .null] K = K (q_mk (z_h S I J P n) 7 [.null, .null, .null]) n.1 := fun _ => rfl
  have hmk : ∃ S8 I8 J8 P8 n8, q_mk (z_h S I J P n) 7 [.null, .null, .null] = z_h S8 I8 J8 P8 n8 ∧ S8 8 = S 8 ∧ P8 8 = P 8 := by
    have e0 := z_mk' (S := S) (I := I) (J := J) (P := P) (n := n) (t := 7) (vs := [Value.null, .null, .null]) [2, 2, 2] (f := fun _ => z_n 0) (g := fun _ => 0) (p := fun _ => none) rfl (by
      intro i k hk
      match i, hk with
      | 0, hk => cases hk; rfl
      | 1, hk => cases hk; rfl
      | 2, hk => cases hk; rfl
      | i + 3, hk => simp at hk)
    exact ⟨_, _, _, _, _, e0, z_us_a (by omega), z_rp_a (by omega)⟩
  obtain ⟨S8, I8, J8, P8, n8, e8, es8, ep8⟩ := hmk
  have k0 : q_gr (q_gf (z_h S8 I8 J8 P8 n8) 0 8 0) = some 9 := z_gr (es8.trans (s_8 hS)) rfl (by rw [ep8]; exact p_8_0 hP)
  have k1 : q_gr (q_gf (z_h S8 I8 J8 P8 n8) 0 8 1) = some 11 := z_gr (es8.trans (s_8 hS)) rfl (by rw [ep8]; exact p_8_1 hP)
  have lo' : ∀ a, a < n.1 → a ≠ 9 → z_up X 9 1 (z_n 0) a = I a := fun a ha h9 => by rw [z_ups h9]; exact (lo a ha h9).1
  unfold f_Rs_read
  rw [g3, Option.bind_some, o13, Option.bind_some, ti, z_sq, show (0 : Int32) = z_n 0 from rfl, if_neg (by decide), mk, e8, k0, Option.bind_some, k1, Option.bind_some, ← e8, a1, z_sq, o7, Option.bind_some, b1, z_sq, g0, Option.bind_some, w9, Option.bind_some]
  generalize k_all T 13 0 k_D0 = O at *
  rcases O with F | ⟨p', D'⟩
  · obtain ⟨c1, c2, c3⟩ := b3
    rw [c1, if_neg (by rw [z_eq (by omega) (by omega)]; omega)]
    refine ⟨_, S1, _, Z, P1, rfl, fun a ha => ⟨(ag a ha).1.1, fun h9 => (lo a ha h9).2, fun _ => (ag a ha).1.2, fun h9 _ => lo' a ha h9⟩, z_up_s _ _ _ _, rfl, ⟨c2, c3⟩, (ag 18 (by omega)).1.2, lo' 22 (by omega) (by decide)⟩
  · obtain ⟨c1, c2, c3⟩ := b3
    have hg := a3.2.2.2.2.2
    have pd : z_pd (z_up X 9 1 (z_n 0)) Z (n.1 + 1) D' := k_pd c3 (fun l hl k _ _ => ⟨by rw [z_ups (by omega)], rfl⟩) (by rw [z_ups (by omega)])
    have t0 : ∀ q t, q < 5 → t < 3 → z_up X 9 1 (z_n 0) (n.1 + 1 + 12) (q * 3 + t) = z_n 0 := by
      intro q t hq ht
      rw [z_ups (by omega), (b2.1 (n.1 + 1 + 12) (by omega) (by omega)).1]
      exact a6 q t hq ht
    obtain ⟨Y, d1, d2, d3⟩ := C_settle (n := (n.1 + 14, n.2 + 151)) a3.1 hg pd c2 t0
    have r2 : ∀ I J m, q_gr (q_gf (z_h S1 I J P1 m) 7 n.1 2) = some (n.1 + 1) := fun _ _ _ => z_gr a3.2.1 rfl a3.2.2.2.2.1
    have g3' : ∀ I J m, q_gr (q_gf (z_h S1 I J P1 m) 0 8 3) = some 13 := fun _ _ _ => z_gr (s_8 hS1) rfl (p_8_3 hP1)
    have g34 : ∀ I J m, q_gr (q_gf (z_h S1 I J P1 m) 2 13 4) = some 18 := fun _ _ _ => z_gr (s_13 hS1) rfl (p_13_4 hP1)
    have o8 := fun I J m => z_ob (S := S1) (I := I) (J := J) (P := P1) (n := m) a3.1.1
    have w18 := fun I J m v => z_sar (S := S1) (I := I) (J := J) (P := P1) (n := m) (v := v) (s_18 hS1) (by decide) (show s < 2147483648 by omega) (z_rpl hs)
    have hP2 : ∀ a, a ≠ 18 → z_pu P1 18 s (some (n.1 + 1)) a = P1 a := fun a ha => z_pu_r ha
    have g6 : ∀ I J m, q_gr (q_gf (z_h S1 I J (z_pu P1 18 s (some (n.1 + 1))) m) 0 8 6) = some 22 := fun _ _ _ => z_gr (s_8 hS1) rfl (by rw [hP2 8 (by decide)]; exact p_8_6 hP1)
    have w22 := fun I J m v => z_sfi (S := S1) (I := I) (J := J) (P := z_pu P1 18 s (some (n.1 + 1))) (n := m) (i := 0) (v := v) (s_22 hS1) (by decide) rfl
    have lo2 : ∀ a, a < n.1 → a ≠ 9 → Y a = I a := fun a ha h9 => by rw [d2 a (by omega) (by omega) (by omega)]; exact lo' a ha h9
    rw [c1, if_pos rfl, r2, Option.bind_some, o8, Option.bind_some, d1, z_sq, g3', Option.bind_some, g34, Option.bind_some, r2, Option.bind_some, o8, Option.bind_some, w18, Option.bind_some, g6, Option.bind_some, show (1 : Int32) = z_n 1 from rfl, w22, Option.bind_some]
    refine ⟨_, S1, _, Z, _, rfl, fun a ha => ⟨(ag a ha).1.1, fun h9 => (lo a ha h9).2, fun h18 => (hP2 a h18).trans (ag a ha).1.2, fun h9 h22 => ?_⟩, ?_, rfl, c2, fun i => ?_, z_up_s _ _ _ _, ?_, ?_, ?_⟩
    · rw [z_ups h22]; exact lo2 a ha h9
    · rw [z_up_a (by decide), d2 9 (by omega) (by omega) (by omega)]; exact z_up_s _ _ _ _
    · unfold z_pu
      by_cases e : i = s
      · rw [if_pos ⟨rfl, e⟩, if_pos e]
      · rw [if_neg (fun x => e x.2), if_neg e, (ag 18 (by omega)).1.2]
    · obtain ⟨y1, y2, y3, y4, y5, y6, y7, y8⟩ := a3.1
      refine ⟨y1, fun j h1 h2 => ?_, y3, y4, y5, y6, ?_, y8⟩
      · rw [hP2 _ (by omega)]; exact y2 j h1 h2
      · rw [hP2 _ (by omega)]; exact y7
    · exact k_pd pd (fun l hl k h1 h2 => ⟨by rw [z_ups (by omega), d2 _ (by omega) (by omega) (by omega)], rfl⟩) (by rw [z_ups (by omega), d2 _ (by omega) (by omega) (by omega)])
    · refine ⟨fun l hl => ?_, fun q t hq ht => ?_⟩
      · rw [z_ups (by omega), z_ups (by omega)]; exact d3.1 l hl
      · rw [z_ups (by omega)]; exact d3.2 q t hq ht
end
