/-! READ: the reference reads a line's tags. -/
section
variable {S : z_SH} {P : z_MP} {K : Nat → Bool} {n : Nat × Nat} {T : k_T}
set_option maxRecDepth 100000 in
set_option maxHeartbeats 4000000 in
theorem M_tagsX {I : z_MI} {J : z_MJ} {p l : Nat} {mask : Int32} (hS : z_St S) (hP : z_Pt P) (hT : k_hd (I 83 18) (I 99) T) (hp : p ≤ T.1) (k : k_M T p I J) (m : Nat) :
    (k_is T p 59 = true → f_Mo_readsLine_L161 83 (z_n l) (m + 1) mask (z_h S I J P n) = some (.inr (), z_h S I J P n)) ∧
    (¬ k_is T p 59 = true → ¬ k_ix T k_w1 p < 8 → f_Mo_readsLine_L161 83 (z_n l) (m + 1) mask (z_h S I J P n) = some (.inl (z_n 0), z_h S (z_up I 83 24 (z_n (k_fl T 1 p))) J P n)) := by
  have om := fun I J => z_ob (I := I) (J := J) (P := P) (n := n) (s_83 hS)
  have er := M_errs (n := n) hS hP k 1
  have sg := M_isSign (P := P) (n := n) (c := 59) hS hP hT hp k (by omega)
  have tg := M_tag (P := P) (n := n) hS k
  have z0 : (0 : Int32) = z_n 0 := rfl
  have z1 : (1 : Int32) = z_n 1 := rfl
  have z59 : (59 : Int32) = z_n 59 := rfl
  have nb : ¬ ¬ (z_n 0 = z_n 0 ∨ z_n 0 = z_n 1) := fun e => e (Or.inl rfl)
  refine ⟨fun q => ?_, fun q q2 => ?_⟩
  · rw [z_b_t q] at sg
    rw [f_Mo_readsLine_L161, om, Option.bind_some, z59, sg, z_sq, if_neg (by decide)]
  · rw [z_b_f q] at sg
    rw [if_neg q2] at tg
    rw [f_Mo_readsLine_L161, om, Option.bind_some, z59, sg, z_sq, z0, if_pos rfl, om, Option.bind_some, tg, z_sq, if_pos rfl, om, Option.bind_some, z1, er, z_sq, if_neg nb]
def k_mS (S : z_SH) (P : z_MP) (n : Nat × Nat) (T : k_T) (l f m : Nat) : Prop := ∀ p (D : z_D) (I : z_MI) (J : z_MJ), D.1 = l → p ≤ T.1 → k_hd (I 83 18) (I 99) T → k_M T p I J → k_mz I J D → k_ml I J D → d_ok D → k_rc D → k_pc (d_tg D D.1) + f = 9 →
    (∃ F X Z, k_tags T f p D = .inl F ∧ f_Mo_readsLine_L161 83 (z_n (288 + l)) m (z_n (k_mk (d_tg D D.1))) (z_h S I J P n) = some (.inl (z_n 0), z_h S X Z P n) ∧ k_mf I J X Z ∧ X 83 24 = z_n F) ∨
    (∃ ps D' X Z, k_tags T f p D = .inr (k_e T ps, D') ∧ ps ≤ T.1 ∧ f_Mo_readsLine_L161 83 (z_n (288 + l)) m (z_n (k_mk (d_tg D D.1))) (z_h S I J P n) = some (.inr (), z_h S X Z P n) ∧ k_mf I J X Z ∧ D'.1 = D.1 ∧ k_M T ps X Z ∧ k_mz X Z D' ∧ k_ml X Z D')
set_option maxRecDepth 100000 in
set_option maxHeartbeats 4000000 in
theorem M_tagsS (hS : z_St S) (hP : z_Pt P) (l f m : Nat) (l12 : l < 12) (ih : k_mS S P n T l f m) : k_mS S P n T l (f + 1) (m + 1) := by
  intro p D I J hl hp hT k h ml ok rc pc
  subst hl
  obtain ⟨x1, x2⟩ := M_tagsX (n := n) (l := 288 + D.1) (mask := z_n (k_mk (d_tg D D.1))) hS hP hT hp k m
  unfold k_tags
  by_cases q : k_is T p 59 = true
  · rw [if_pos q]
    exact Or.inr ⟨p, D, I, J, rfl, hp, x1 q, k_mf.rfl' I J, rfl, k, h, ml⟩
  rw [if_neg q]
  have x2 := x2 q
  clear x1
  generalize ix : k_ix T k_w1 p = t at *
  by_cases q2 : t < 8
  · rw [if_pos q2]
    obtain ⟨v, ev, hv⟩ := rc.2.2.2.2.1
    obtain ⟨lt, bt⟩ := d_tg_b hv ev
    obtain ⟨tk, sn⟩ := k_tag_ok (T := T) (p := p) (D := D) hT.1 hp (by omega) q2 ⟨v, hv, ev⟩
    have trc := k_tag_rc (T := T) (p := p) (D := D) hp q2
    rcases M_tagS (n := n) hS hP hT hp k h ml ok rc (by omega) q ix q2 m with ⟨F, X, Z, e1, e2, e3, e4⟩ | ⟨p', D', X, Z, e1, e2, e3, e4, e5, e6, e7⟩
    · rw [e1]
      exact Or.inl ⟨F, X, Z, rfl, e2, e3, e4⟩
    · rw [e1] at tk trc sn ⊢
      obtain ⟨o1, o2, o3, o4⟩ := tk
      obtain ⟨c1, c2⟩ := trc
      have m0 : d_tg D D.1 / k_tb.getD t 0 % 2 = 0 := Classical.not_not.mp (fun e => by
        obtain ⟨F, e'⟩ := sn ((bt _ q2).mpr e)
        cases e')
      have pcs := (k_pc_s _ lt _ q2 m0).1
      have rc' := c2 rc
      have ok' : d_ok D' := c1.ok ok
      rcases ih p' D' X Z e4 o1 (e3.hd hT) e5 e6 e7 ok' rc' (by rw [e4, o4, pcs]; omega) with ⟨F, X2, Z2, g1, g2, g3, g4⟩ | ⟨ps, D2, X2, Z2, g1, g0, g2, g3, g4, g5, g6, g7⟩
      · rw [e4] at g2
        exact Or.inl ⟨F, X2, Z2, g1, e2.trans g2, e3.trans g3, g4⟩
      · rw [e4] at g2
        exact Or.inr ⟨ps, D2, X2, Z2, g1, g0, e2.trans g2, e3.trans g3, g4.trans e4, g5, g6, g7⟩
  · rw [if_neg q2]
    exact Or.inl ⟨_, _, _, rfl, x2 q2, k_mf_24 _, z_up_s _ _ _ _⟩
theorem M_tagsL (hS : z_St S) (hP : z_Pt P) (l : Nat) (l12 : l < 12) : ∀ f m, f ≤ m → k_mS S P n T l f m
  | 0, m, hm => fun p D I J hl hp hT k h ml ok rc pc => by
    exfalso
    obtain ⟨v, ev, hv⟩ := rc.2.2.2.2.1
    have := (k_pc_8 _ (d_tg_b hv ev).1 0 (by decide)).1
    omega
  | f + 1, 0, hm => absurd hm (by omega)
  | f + 1, m + 1, hm => M_tagsS hS hP l f m l12 (M_tagsL hS hP l l12 f m (by omega))
end
