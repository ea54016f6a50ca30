/-! READ: the class makes a reader; it reads all. -/
def k_D0 : z_D := (0, fun _ _ => z_n 0, fun _ _ => 0)
section
variable {S : z_SH} {I : z_MI} {J : z_MJ} {P : z_MP} {n : Nat × Nat} {T : k_T} {r g : Nat}
set_option maxRecDepth 100000 in
set_option maxHeartbeats 4000000 in
theorem C_rinit (hn : 131 ≤ n.1) : ∃ S' I' J' P', f_Sr_init n.1 9 11 (q_mk (z_h S I J P n) 7 [.null, .null, .null]) = some ((), z_h S' I' J' P' (n.1 + 14, n.2 + 151)) ∧ z_ag n.1 z_nil S I J P S' I' J' P' ∧ k_cl S' P' n.1 (n.1 + 1) ∧ I' (n.1 + 1) 0 = z_n 0 ∧ k_nw I' J' (n.1 + 1) 0 ∧ ∀ q t, q < 5 → t < 3 → I' (n.1 + 1 + 12) (q * 3 + t) = z_n 0 := by
  have e0 := z_mk' (S := S) (I := I) (J := J) (P := P) (n := n) (t := 7) (vs := [Value.null, .null, .null]) [2, 2, 2] (f := fun _ => z_n 0) (g := fun _ => 0) (p := fun _ => none) rfl (by
    intro i k hk
    match i, hk with
    | 0, hk => cases hk; rfl
    | 1, hk => cases hk; rfl
    | 2, hk => cases hk; rfl
    | i + 3, hk => simp at hk)
  rw [e0]
  have s0 : (z_us S n.1 (7, [2, 2, 2])) n.1 = some (7, [2, 2, 2]) := by rw [z_us_s]
  have ag0 : z_ag n.1 z_nil S I J P (z_us S n.1 (7, [2, 2, 2])) (z_ri I n.1 fun _ => z_n 0) (z_rj J n.1 fun _ => 0) (z_rp P n.1 fun _ => none) := fun a ha => by
    refine ⟨⟨z_us_a (by omega), z_rp_a (by omega)⟩, fun _ => ⟨z_ri_a (by omega), z_rj_a (by omega)⟩⟩
  generalize z_us S n.1 (7, [2, 2, 2]) = S1 at *
  generalize (z_ri I n.1 fun _ => z_n 0) = I1 at *
  generalize (z_rj J n.1 fun _ => 0) = J1 at *
  generalize (z_rp P n.1 fun _ => none) = P1 at *
  have e1 := z_mk' (S := S1) (I := I1) (J := J1) (P := P1) (n := (n.1 + 1, n.2 + [2, 2, 2].length)) (t := 8) (vs := [Value.int 0, .null, .null, .null, .null, .null, .null, .null, .null, .null, .null, .null]) k_Ks (f := fun _ => z_n 0) (g := fun _ => 0) (p := fun _ => none) rfl (by
    intro i k hk
    match i, hk with
    | 0, hk => cases hk; rfl
    | 1, hk => cases hk; rfl
    | 2, hk => cases hk; rfl
    | 3, hk => cases hk; rfl
    | 4, hk => cases hk; rfl
    | 5, hk => cases hk; rfl
    | 6, hk => cases hk; rfl
    | 7, hk => cases hk; rfl
    | 8, hk => cases hk; rfl
    | 9, hk => cases hk; rfl
    | 10, hk => cases hk; rfl
    | 11, hk => cases hk; rfl
    | i + 12, hk => simp [k_Ks] at hk)
  have sg : (z_us S1 (n.1 + 1) (8, k_Ks)) (n.1 + 1) = some (8, k_Ks) := by rw [z_us_s]
  have ig : (z_ri I1 (n.1 + 1) fun _ => z_n 0) (n.1 + 1) 0 = z_n 0 := by rw [z_ri_s]
  have ag1 : ∀ a, a < n.1 + 1 → (z_us S1 (n.1 + 1) (8, k_Ks)) a = S1 a ∧ (z_ri I1 (n.1 + 1) fun _ => z_n 0) a = I1 a ∧ (z_rj J1 (n.1 + 1) fun _ => 0) a = J1 a ∧ (z_rp P1 (n.1 + 1) fun _ => none) a = P1 a := fun a ha =>
    ⟨z_us_a (by omega), z_ri_a (by omega), z_rj_a (by omega), z_rp_a (by omega)⟩
  obtain ⟨S', I', J', P', p1, p2, p3, p4, p5, p6⟩ := C_pinit (I := z_ri I1 (n.1 + 1) fun _ => z_n 0) (J := z_rj J1 (n.1 + 1) fun _ => 0) (P := z_rp P1 (n.1 + 1) fun _ => none) (q := n.2 + [2, 2, 2].length + k_Ks.length) sg (by omega)
  have ma : ∀ K : q_H → Nat → Option (Unit × q_H), q_ma (z_h S1 I1 J1 P1 (n.1 + 1, n.2 + [2, 2, 2].length)) 8 [Value.int 0, .null, .null, .null, .null, .null, .null, .null, .null, .null, .null, .null] K = K (q_mk (z_h S1 I1 J1 P1 (n.1 + 1, n.2 + [2, 2, 2].length)) 8 [Value.int 0, .null, .null, .null, .null, .null, .null, .null, .null, .null, .null, .null]) (n.1 + 1) := fun _ => rfl
  have sr : S' n.1 = some (7, [2, 2, 2]) := by rw [(p3 n.1 (by omega)).1, (ag1 n.1 (by omega)).1]; exact s0
  have w := fun (Q : z_MP) (i v : Nat) (hi : i < 3) => z_sfr (S := S') (I := I') (J := J') (P := Q) (n := (n.1 + 1 + 13, n.2 + [2, 2, 2].length + k_Ks.length + 136)) (i := i) (v := v) sr (by omega) (by
    match i, hi with
    | 0, _ => rfl
    | 1, _ => rfl
    | 2, _ => rfl)
  refine ⟨S', I', J', z_pu (z_pu (z_pu P' n.1 2 (some (n.1 + 1))) n.1 0 (some 9)) n.1 1 (some 11), ?_, fun a ha => ?_, ⟨?_, sr, ?_, ?_, ?_, by omega⟩, ?_, fun l h1 h2 => ⟨(p5 6 (by omega) (by omega) l).1, (p5 2 (by omega) (by omega) l).2, (p5 3 (by omega) (by omega) l).2⟩, p6⟩
  · unfold f_Sr_init
    rw [ma, e1]
    show q_sq (f_Pa_init (n.1 + 1) (z_h _ _ _ _ (n.1 + 1 + 1, _))) _ = _
    rw [p1, z_sq, w _ 2 _ (by omega), Option.bind_some, w _ 0 _ (by omega), Option.bind_some, w _ 1 _ (by omega), Option.bind_some]
    rfl
  · obtain ⟨c1, c2⟩ := ag0 a ha
    obtain ⟨d1, d2, d3, d4⟩ := ag1 a (by omega)
    obtain ⟨x1, x2, x3, x4⟩ := p3 a (by omega)
    refine ⟨⟨x1.trans (d1.trans c1.1), ?_⟩, fun hx => ⟨x2.trans (d2.trans (c2 hx).1), x3.trans (d3.trans (c2 hx).2)⟩⟩
    rw [z_pu_r (by omega), z_pu_r (by omega), z_pu_r (by omega)]
    exact x4.trans (d4.trans c1.2)
  · obtain ⟨y1, y2, y3, y4, y5, y6, y7, y8⟩ := p2
    refine ⟨y1, fun j h1 h2 => ?_, y3, y4, y5, y6, ?_, y8⟩
    · rw [z_pu_a (by omega), z_pu_a (by omega), z_pu_a (by omega)]; exact y2 j h1 h2
    · rw [z_pu_a (by omega), z_pu_a (by omega), z_pu_a (by omega)]; exact y7
  · rw [z_pu_i (by decide), z_pu_s]
  · exact z_pu_s _ _ _ _
  · rw [z_pu_i (by decide), z_pu_i (by decide), z_pu_s]
  · rw [p4]; exact ig
set_option maxRecDepth 100000 in
set_option maxHeartbeats 4000000 in
theorem C_parse (hS : z_St S) (hP : z_Pt P) (h : k_cl S P r g) (hT : T.1 ≤ 1000) (s : k_st I J T) (h0 : I g 0 = z_n 0) (nw : k_nw I J g 0) : ∃ r' X Z, f_Sr_parse r (z_h S I J P n) = some (r', z_h S X Z P n) ∧ k_fr g I J X Z ∧ k_af g r' X Z (k_all T 13 0 k_D0) := by
  have hg := h.2.2.2.2.2
  have f1 : k_fr g I J (z_up I 9 2 (z_n 0)) J := ⟨fun a h1 _ => ⟨z_up_r h1, rfl⟩, z_up_i (by decide)⟩
  have pz : k_pz (z_up I 9 2 (z_n 0)) J g k_D0 := ⟨⟨by rw [z_up_a (by omega)]; exact h0, fun k l _ hl => absurd hl (Nat.not_lt_zero _), fun l hl => absurd hl (Nat.not_lt_zero _)⟩, fun l h1 h2 => by rw [z_up_a (by omega)]; exact nw l h1 h2⟩
  obtain ⟨r', X, Z, b1, b2, b3⟩ := C_parseL (n := n) hS hP h hT 13 q_FU 0 (by rw [z_FU]; omega) (by omega) 0 k_D0 (z_up I 9 2 (z_n 0)) J rfl (by omega) (f1.st hg s) (z_up_s _ _ _ _) pz ⟨by decide, fun l hl => absurd hl (Nat.not_lt_zero _), fun l k hl => absurd hl (Nat.not_lt_zero _)⟩
  refine ⟨r', X, Z, ?_, f1.trans b2, b3⟩
  have r0 : q_gr (q_gf (z_h S I J P n) 7 r 0) = some 9 := z_gr h.2.1 rfl h.2.2.1
  have o9 := z_ob (I := I) (J := J) (P := P) (n := n) (s_9 hS)
  have w9 := z_sfi (I := I) (J := J) (P := P) (n := n) (i := 2) (v := z_n 0) (s_9 hS) (by decide) rfl
  unfold f_Sr_parse f_Ta_start
  rw [r0, Option.bind_some, o9, Option.bind_some, show (0 : Int32) = z_n 0 from rfl, w9, Option.bind_some, z_sq, b1, z_sq]
end
