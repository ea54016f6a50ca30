/-! READ: the class reads all lines. -/
def k_tr (T : k_T) (D : z_D) (O : k_O) : Prop := match O with
  | .inl F => 0 < F ∧ F < 20000
  | .inr (p', D') => p' ≤ T.1 ∧ d_eq D D' ∧ (k_rc D → k_rc D')
theorem d_eq.trans {D E F : z_D} (h : d_eq D E) (k : d_eq E F) : d_eq D F := ⟨h.1.trans k.1, fun l hl => ⟨fun j hj => ((h.2 l hl).1 j hj).trans ((k.2 l (by rw [← h.1]; exact hl)).1 j hj), fun j hj => ((h.2 l hl).2 j hj).trans ((k.2 l (by rw [← h.1]; exact hl)).2 j hj)⟩⟩
theorem k_tags_ok {T : k_T} (hT : T.1 ≤ 1000) : ∀ (f p : Nat) (D : z_D), p ≤ T.1 → D.1 < 12 → k_v4 D → k_tr T D (k_tags T f p D)
  | 0, p, D, hp, _, _ => k_fl_ok hT hp (by omega) (by omega)
  | f + 1, p, D, hp, l12, v4 => by
    unfold k_tags
    by_cases q : k_is T p 59 = true
    · rw [if_pos q]; exact ⟨(k_e_le hp).2, ⟨rfl, fun _ _ => ⟨fun _ _ => rfl, fun _ _ => rfl⟩⟩, id⟩
    · rw [if_neg q]
      generalize k_ix T k_w1 p = x
      by_cases q2 : x < 8
      · rw [if_pos q2]
        have ok := (k_tag_ok (t := x) hT hp l12 q2 v4).1
        have rc := k_tag_rc (D := D) hp q2
        generalize k_tag T p x D = O at *
        rcases O with F | ⟨p', D'⟩
        · exact ok
        · obtain ⟨o1, o2, o3, o4⟩ := ok
          obtain ⟨c1, c2⟩ := rc
          have ih := k_tags_ok hT f p' D' o1 (by rw [o2]; exact l12) o3
          show k_tr T D (k_tags T f p' D')
          generalize k_tags T f p' D' = O2 at *
          rcases O2 with F | ⟨p2, D2⟩
          · exact ih
          · exact ⟨ih.1, c1.trans ih.2.1, fun r => ih.2.2 (c2 r)⟩
      · rw [if_neg q2]; exact k_fl_ok hT hp (by omega) (by omega)
/-- the answer and the page at the end -/
def k_af (g : Nat) (r : Int32) (X : z_MI) (Z : z_MJ) (O : k_O) : Prop := match O with
  | .inl F => r = z_n F ∧ 0 < F ∧ F < 20000
  | .inr (_, D') => r = z_n 0 ∧ d_ok D' ∧ z_pd X Z g D'
theorem z_pd.add {X : z_MI} {Z : z_MJ} {g : Nat} {D : z_D} (h : k_pg X Z g D (d_tg D D.1)) (hg : 131 ≤ g) : k_pz (z_up X g 0 (z_n (D.1 + 1))) Z g (D.1 + 1, D.2) := by
  obtain ⟨⟨h1, h2, h3⟩, ⟨l1, l2, l3, l4, l5, l6⟩, h8, h9⟩ := h
  have e : ∀ j, 1 ≤ j → z_up X g 0 (z_n (D.1 + 1)) (g + j) = X (g + j) := fun j hj => z_up_r (by omega)
  refine ⟨⟨z_up_s _ _ _ _, fun k l hk hl => ?_, fun l hl => ?_⟩, fun l h1 h2 => ?_⟩
  · change l < D.1 + 1 at hl
    by_cases q : l < D.1
    · exact h2 k l hk q
    · have : l = D.1 := by omega
      subst this; exact l1 k hk
  · change l < D.1 + 1 at hl
    rw [e 4 (by omega), e 5 (by omega), e 6 (by omega), e 7 (by omega), e 8 (by omega)]
    by_cases q : l < D.1
    · exact h3 l q
    · have : l = D.1 := by omega
      subst this; exact ⟨l2, l3, l4, l5, l6⟩
  · rw [e 6 (by omega)]; exact h8 l h1 h2
/-- one line: its head and its tags -/
def k_line (T : k_T) (p : Nat) (sx : Int32) (D : z_D) : k_O := match k_head T p sx D with
  | .inl F => .inl F
  | .inr (p', D') => k_tags T 9 p' D'
section
variable {S : z_SH} {P : z_MP} {K : Nat → Bool} {n : Nat × Nat} {T : k_T} {r g : Nat}
/-- the answer and the page when a line is read -/
def k_al (T : k_T) (g : Nat) (D : z_D) (r : Int32) (X : z_MI) (Z : z_MJ) (O : k_O) : Prop := match O with
  | .inl F => r = z_n F ∧ 0 < F ∧ F < 20000
  | .inr (p', D') => r = z_n 0 ∧ D'.1 = D.1 ∧ k_pg X Z g D' (d_tg D' D.1) ∧ X 9 2 = z_n p' ∧ p' ≤ T.1 ∧ d_eq D D' ∧ k_rc D'
set_option maxRecDepth 100000 in
set_option maxHeartbeats 4000000 in
theorem C_line (hS : z_St S) (hP : z_Pt P) (h : k_cl S P r g) (hT : T.1 ≤ 1000) {p : Nat} {D : z_D} {I : z_MI} {J : z_MJ} (s : k_st I J T) (hp : p ≤ T.1) (h2 : I 9 2 = z_n (k_e T p)) (pz : k_pz I J g D) (l12 : D.1 < 12) {sx : Nat} (hx : sx ≤ 1) :
    ∃ r' X Z, (q_sq (f_Sr_parseHead r (z_n D.1) (z_n sx) (z_h S I J P n)) fun x25 σ24 => q_sq (if x25 = z_n 0 then ((q_ob σ24 7 r).bind fun w27 => q_sq (f_Sr_parseTags r (z_n D.1) σ24) fun x29 σ28 => some (x29, σ28)) else (some (x25, σ24))) fun (t30 : Int32) σ31 => some (t30, σ31)) = some (r', z_h S X Z P n) ∧ k_fr g I J X Z ∧ k_al T g D r' X Z (k_line T p (z_n sx) D) := by
  obtain ⟨r1, X1, Z1, a1, a2, a3⟩ := C_head (n := n) hS hP h s hp h2 pz l12 hx
  have ok := k_head_ok (sx := z_n sx) (D := D) hT hp
  have rc := k_head_rc (T := T) (p := p) (D := D) hx
  have o7 := z_ob (I := X1) (J := Z1) (P := P) (n := n) h.2.1
  rw [a1, z_sq]
  unfold k_line
  generalize k_head T p (z_n sx) D = O at *
  rcases O with F | ⟨p', D'⟩
  · have e : r1 = z_n F := a3
    obtain ⟨o1, o2⟩ : 0 < F ∧ F < 20000 := ok
    rw [e, if_neg (by rw [z_eq (by omega) (by omega)]; omega), z_sq]
    exact ⟨_, X1, Z1, rfl, a2, rfl, o1, o2⟩
  · obtain ⟨b1, b2, b3, b4, b5⟩ := a3
    obtain ⟨o1, -, o3, o4⟩ := ok
    obtain ⟨c1, c2⟩ := rc
    obtain ⟨r2, X2, Z2, d1, d2, d3⟩ := C_tags (n := n) (D := D') hS hP h hT o1 (a2.st h.2.2.2.2.2 s) b5 (by rw [b2]; exact b3) b4 (by rw [b2]; exact o4)
    rw [b2] at d1
    rw [b1, if_pos rfl, o7, Option.bind_some, d1, z_sq, z_sq]
    have tk := k_tags_ok hT 9 p' D' o1 (by rw [b2]; exact l12) o3
    refine ⟨_, X2, Z2, rfl, a2.trans d2, ?_⟩
    show k_al T g D r2 X2 Z2 (k_tags T 9 p' D')
    generalize k_tags T 9 p' D' = O2 at *
    rcases O2 with F | ⟨p2, D2⟩
    · exact ⟨d3, tk.1, tk.2⟩
    · obtain ⟨e1, e2, e3, e4, e5⟩ := d3
      obtain ⟨g1, g2, g3⟩ := tk
      exact ⟨e1, e2.trans b2, by rw [← b2]; exact e3, e5, g1, c1.trans g2, g3 c2⟩
end
