/-! READ: the class reads a line's tags: the loop. -/
section
variable {S : z_SH} {P : z_MP} {K : Nat → Bool} {n : Nat × Nat} {T : k_T} {r g : Nat}
theorem k_an.mono {g : Nat} {D E : z_D} {r : Int32} {X : z_MI} {Z : z_MJ} {O : k_O} (e : E.1 = D.1) (h : k_an T g D r X Z O) : k_an T g E r X Z O := by
  unfold k_an at *
  split
  · exact h
  · obtain ⟨h1, h2, h3⟩ := h
    exact ⟨h1, h2.trans e.symm, by rw [e]; exact h3⟩
def k_tS (S : z_SH) (P : z_MP) (n : Nat × Nat) (T : k_T) (r g l f m i : Nat) : Prop := ∀ p (D : z_D) (I : z_MI) (J : z_MJ), D.1 = l → p ≤ T.1 → k_st I J T → I 9 2 = z_n p → k_pg I J g D (d_tg D D.1) → k_v4 D → k_pc (d_tg D D.1) = i →
    ∃ r' X Z, f_Sr_parseTags_L2 r (z_n l) m (z_n i) (z_h S I J P n) = some (.inl r', z_h S X Z P n) ∧ k_fr g I J X Z ∧ k_an T g D r' X Z (k_tags T f p D)
set_option maxRecDepth 100000 in
set_option maxHeartbeats 4000000 in
theorem C_tagsS (hS : z_St S) (hP : z_Pt P) (h : k_cl S P r g) (hT : T.1 ≤ 1000) (l f m i : Nat) (hi : i < 9) (ih : k_tS S P n T r g l f m (i + 1)) : k_tS S P n T r g l (f + 1) (m + 1) i := by
  intro p D I J hl hp s h2 pg v4 pc
  obtain ⟨X1, Z1, a1, a2, a3, a4, a5⟩ := C_adv (J := J) (n := n) hS hP s.1 s.2.1 hp h2
  have fr1 : k_fr g I J X1 Z1 := k_fr_9 a2 a3 a4
  have s1 := fr1.st h.2.2.2.2.2 s
  have pg1 := pg.f h.2.2.2.2.2 a2 a4
  have sg := C_isSign (J := Z1) (P := P) (n := n) (c := 59) hS hp s1.2.1 a5 (by omega)
  have r0 : ∀ I J, q_gr (q_gf (z_h S I J P n) 7 r 0) = some 9 := fun _ _ => z_gr h.2.1 rfl h.2.2.1
  have r1 : ∀ I J, q_gr (q_gf (z_h S I J P n) 7 r 1) = some 11 := fun _ _ => z_gr h.2.1 rfl h.2.2.2.1
  have o9 := fun I J => z_ob (I := I) (J := J) (P := P) (n := n) (s_9 hS)
  have o7 := fun I J => z_ob (I := I) (J := J) (P := P) (n := n) h.2.1
  have ft := C_fault (I := X1) (J := Z1) (P := P) (n := n) hS a5.2.2.1 1
  have w := C_wordIn (n := n) (w := k_w1) hS hP (s_11 hS) (by decide) (fun i hi => s1.2.2.1 i hi) a5
  have le := k_ix_le T k_w1 p
  have l10 : k_w1.length = 10 := rfl
  rw [l10] at w le
  have i8 : ¬ z_n 8 < z_n i := by rw [z_lt (by omega) (by omega)]; omega
  have f7 : ∀ y, f_Rs_isFrom (z_n 0) y (z_n 7) (z_h S X1 Z1 P n) = some (z_b (z_wi y 7 = true), z_h S X1 Z1 P n) := fun y => C_wi
  unfold k_tags f_Sr_parseTags_L2
  generalize k_ix T k_w1 p = x at *
  rw [show (8 : Int32) = z_n 8 from rfl, if_neg i8, r0, Option.bind_some, o9, Option.bind_some, a1, z_sq, r0, Option.bind_some, o9, Option.bind_some, show (59 : Int32) = z_n 59 from rfl, sg, z_sq]
  by_cases q : k_is T p 59 = true
  · rw [if_pos q, z_b_t q, if_neg (by decide)]
    exact ⟨_, X1, Z1, rfl, fr1, rfl, rfl, pg1, v4, a5.1⟩
  · rw [if_neg q, z_b_f q, if_pos (by decide), r0, Option.bind_some, r1, Option.bind_some, o9, Option.bind_some, w, z_sq, show (0 : Int32) = z_n 0 from rfl, show (7 : Int32) = z_n 7 from rfl, f7, z_sq]
    by_cases q2 : x < 8
    · rw [if_pos q2, if_pos (show x < 10 by omega), z_b_t (z_wi_in (by omega) (by decide)), if_neg (by decide), o7, Option.bind_some]
      obtain ⟨r', X, Z, b1, b2, b3⟩ := C_parseTag (n := n) hS hP h s1 hp a5 q2 pg1 v4
      rw [hl] at b1
      rw [b1, z_sq]
      obtain ⟨ok, sn⟩ := k_tag_ok (t := x) hT hp pg.2.2.2 q2 v4
      have sn' : ∀ p' D', k_tag T p (x) D = .inr (p', D') → ¬ d_sn D D.1 (x) = true := fun p' D' e g => by
        obtain ⟨F, e'⟩ := sn g
        rw [e] at e'; cases e'
      generalize k_tag T p (x) D = O at *
      rcases O with F | ⟨p', D'⟩
      · have b3' : r' = z_n F := b3
        obtain ⟨o1, o2⟩ : 0 < F ∧ F < 20000 := ok
        rw [b3', if_neg (by rw [z_eq (by omega) (by omega)]; omega)]
        exact ⟨_, X, Z, rfl, fr1.trans b2, rfl⟩
      · obtain ⟨c1, c2, c3, c4, c5⟩ := b3
        obtain ⟨o1, o2, o3, o4⟩ := ok
        have sn' := sn' p' D' rfl
        rw [c1, if_pos rfl, show (1 : Int32) = z_n 1 from rfl, z_n_add]
        obtain ⟨v, hv, ev⟩ := v4
        obtain ⟨lt, bt⟩ := d_tg_b hv ev
        have m0 : d_tg D D.1 / k_tb.getD (x) 0 % 2 = 0 := Classical.not_not.mp (fun e => sn' ((bt _ q2).mpr e))
        have pcs := (k_pc_s _ lt _ q2 m0).1
        obtain ⟨r2, X2, Z2, d1, d2, d3⟩ := ih p' D' X Z (c2.trans hl) o1 (b2.st h.2.2.2.2.2 s1) c5 (by rw [c2]; exact c3) c4 (by rw [c2, o4, pcs, pc])
        exact ⟨r2, X2, Z2, d1, (fr1.trans b2).trans d2, d3.mono c2.symm⟩
    · rw [if_neg q2]
      have wi : z_wi (if x < 10 then z_n (x) else -z_n 1) 7 = false := by
        have cs : x = 8 ∨ x = 9 ∨ x = 10 := by omega
        rcases cs with e | e | e <;> rw [e] <;> decide
      rw [wi, z_b_f (by decide), if_pos rfl, r0, Option.bind_some, o9, Option.bind_some, show (1 : Int32) = z_n 1 from rfl, ft, z_sq]
      exact ⟨_, X1, Z1, rfl, fr1, rfl⟩
theorem C_tagsL (hS : z_St S) (hP : z_Pt P) (h : k_cl S P r g) (hT : T.1 ≤ 1000) (l : Nat) : ∀ f m i, f ≤ m → f + i = 9 → k_tS S P n T r g l f m i
  | 0, m, i, hm, hi => fun p D I J hl hp s h2 pg v4 pc => by
    exfalso
    obtain ⟨v, hv, ev⟩ := v4
    have := (k_pc_8 _ (d_tg_b hv ev).1 0 (by decide)).1
    omega
  | f + 1, 0, i, hm, hi => absurd hm (by omega)
  | f + 1, m + 1, i, hm, hi => C_tagsS hS hP h hT l f m i (by omega) (C_tagsL hS hP h hT l f m (i + 1) (by omega) (by omega))
set_option maxRecDepth 100000 in
set_option maxHeartbeats 4000000 in
theorem C_tags (hS : z_St S) (hP : z_Pt P) (h : k_cl S P r g) (hT : T.1 ≤ 1000) {p : Nat} {D : z_D} {I : z_MI} {J : z_MJ} (hp : p ≤ T.1) (s : k_st I J T) (h2 : I 9 2 = z_n p) (pg : k_pg I J g D (d_tg D D.1)) (v4 : k_v4 D) (t0 : d_tg D D.1 = 0) :
    ∃ r' X Z, f_Sr_parseTags r (z_n D.1) (z_h S I J P n) = some (r', z_h S X Z P n) ∧ k_fr g I J X Z ∧ k_an T g D r' X Z (k_tags T 9 p D) := by
  obtain ⟨r', X, Z, b1, b2, b3⟩ := C_tagsL (n := n) hS hP h hT D.1 9 q_FU 0 (by rw [z_FU]; omega) (by omega) p D I J rfl hp s h2 pg v4 (by rw [t0]; rfl)
  refine ⟨r', X, Z, ?_, b2, b3⟩
  unfold f_Sr_parseTags
  rw [show (0 : Int32) = z_n 0 from rfl, b1, z_sq]
end
