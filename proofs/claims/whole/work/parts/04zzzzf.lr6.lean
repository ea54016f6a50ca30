/-! LAW: a law of the reference. -/
section
variable {S : z_SH} {J : z_MJ} {P : z_MP} {n : Nat × Nat} {v : l_V}
set_option maxRecDepth 100000 in
set_option maxHeartbeats 4000000 in
theorem Mw_run (hS : z_St S) (hP : z_Pt P) {l e : Nat} (hl : l < 30) (e5 : e ≤ 5000) : ∀ (L : List Nat) {I : z_MI} {d k : Nat} {s : Nat × z_MI}, I 106 l = z_n e → k + L.length ≤ e → (∀ j, j < L.length → I 107 (k + j) = z_n (L.getD j 0)) → (∀ j, j < 13 → I 119 (j + 1) = v j) → d ≤ 6 → y_r v L (d, I) = some s →
    (∀ f, f_Mo_worth_L14 83 (z_n l) (f + L.length) (z_n d) (z_n k) (z_h S I J P n) = f_Mo_worth_L14 83 (z_n l) f (z_n s.1) (z_n (k + L.length)) (z_h S s.2 J P n)) ∧ s.1 ≤ 6 ∧ y_fr I s.2
  | [], I, d, k, s, _, _, _, _, hd, h => by
    cases h
    exact ⟨fun _ => rfl, hd, y_fr.rfl' I⟩
  | x :: r, I, d, k, s, he, hk, hc, hv, hd, h => by
    have ll : (x :: r).length = r.length + 1 := rfl
    rw [ll] at hk hc
    have h' : (y_1 v x d I).bind (y_r v r) = some s := h
    cases q : y_1 v x d I with
    | none => rw [q] at h'; cases h'
    | some s1 =>
      rw [q, Option.bind_some] at h'
      obtain ⟨a1, a2, a3⟩ := Mw_1 (J := J) (n := n) (k := k) hS hP hl he (by omega) e5 (hc 0 (by omega)) hv hd q
      obtain ⟨c1, c2, c3⟩ := Mw_run hS hP hl e5 r (I := s1.2) (d := s1.1) (k := k + 1) (s := s) (by rw [a3 106 (by omega)]; exact he) (by omega) (fun j hj => by
        rw [a3 107 (by omega), show k + 1 + j = k + (j + 1) by omega]; exact hc (j + 1) (by omega)) (fun j hj => by rw [a3 119 (by omega)]; exact hv j hj) a2 h'
      refine ⟨fun f => ?_, c2, a3.trans c3⟩
      rw [ll, ← Nat.add_assoc, a1, c1, show k + 1 + r.length = k + (r.length + 1) by omega]
theorem y_pre0 (I : z_MI) : y_pre 4 0 (y_opn 0 I) := by
  refine ⟨Or.inl rfl, ?_, fun _ => ⟨?_, ?_⟩, fun _ => ?_, fun _ => ?_⟩
  · unfold y_opn; rw [z_up_s]
  · unfold y_opn; rw [z_up_o (by omega), z_up_o (by omega), z_up_s]
  · unfold y_opn; rw [z_up_o (by omega), z_up_s]
  · unfold y_opn; rw [z_up_o (by omega), z_up_o (by omega), z_up_o (by omega), z_up_s]
  · unfold y_opn; rw [z_up_o (by omega), z_up_o (by omega), z_up_o (by omega), z_up_o (by omega), z_up_s]
set_option maxRecDepth 100000 in
set_option maxHeartbeats 4000000 in
theorem M_worth (hS : z_St S) (hP : z_Pt P) {I : z_MI} {l b e : Nat} {L : List Nat} {w : l_V → Int32} (hl : l < 30) (e5 : e ≤ 5000) (hb : I 105 l = z_n b) (he : I 106 l = z_n e) (hL : e = b + L.length) (hc : ∀ j, j < L.length → I 107 (b + j) = z_n (L.getD j 0)) (hv : ∀ j, j < 13 → I 119 (j + 1) = v j) (hw : y_e 4 6 L w) : ∃ X, f_Mo_worth 83 (z_n l) (z_h S I J P n) = some (w v, z_h S X J P n) ∧ y_fr I X := by
  have om := fun I J => z_ob (I := I) (J := J) (P := P) (n := n) (s_83 hS)
  obtain ⟨X, h1, h2, h3⟩ := hw v 0 (y_opn 0 I) (by omega) (y_pre0 I)
  have h2 : y_tv 0 X = w v := h2
  have fo : y_fr I (y_opn 0 I) := (y_fr.rfl' I).opn 0
  obtain ⟨c1, c2, c3⟩ := Mw_run (J := J) (n := n) (v := v) hS hP hl e5 L (I := y_opn 0 I) (d := 0) (k := b) (s := (0, X)) (by rw [fo 106 (by omega)]; exact he) (by omega) (fun j hj => by rw [fo 107 (by omega)]; exact hc j hj) (fun j hj => by rw [fo 119 (by omega)]; exact hv j hj) (by omega) h1
  have c3 : y_fr (y_opn 0 I) X := c3
  have c1 : ∀ f, f_Mo_worth_L14 83 (z_n l) (f + L.length) (z_n 0) (z_n b) (z_h S (y_opn 0 I) J P n) = f_Mo_worth_L14 83 (z_n l) f (z_n 0) (z_n (b + L.length)) (z_h S X J P n) := c1
  have g36 : q_gr (q_gf (z_h S (y_opn 0 I) J P n) 12 83 36) = some 105 := z_gr (s_83 hS) rfl (p_83_36 hP)
  have g37 : q_gr (q_gf (z_h S X J P n) 12 83 37) = some 106 := z_gr (s_83 hS) rfl (p_83_37 hP)
  have g42 : q_gr (q_gf (z_h S (y_tst 0 X) J P n) 12 83 42) = some 110 := z_gr (s_83 hS) rfl (p_83_42 hP)
  have r105 : q_gi (q_ga (z_h S (y_opn 0 I) J P n) 20 105 (z_n l)) = some (z_n b) := by rw [z_gia (s_105 hS) (by omega) (z_rpl (by omega)), fo 105 (by omega), hb]
  have r106 : q_gi (q_ga (z_h S X J P n) 20 106 (z_n l)) = some (z_n e) := by rw [z_gia (s_106 hS) (by omega) (z_rpl (by omega)), c3 106 (by omega), fo 106 (by omega), he]
  have r110 : q_gi (q_ga (z_h S (y_tst 0 X) J P n) 20 110 (z_n 0)) = some (w v) := by
    rw [z_gia (s_110 hS) (by omega) (z_rpl (by omega)), ← h2]
    unfold y_tst
    rw [z_up_o (by omega), z_up_o (by omega), z_up_o (by omega), z_up_s]
  obtain ⟨g, hg⟩ : ∃ g, q_FU = (g + 1) + L.length := ⟨q_FU - 1 - L.length, by rw [z_FU]; omega⟩
  have loop : f_Mo_worth_L14 83 (z_n l) q_FU (z_n 0) (z_n b) (z_h S (y_opn 0 I) J P n) = some ((), z_h S X J P n) := by
    rw [hg, c1, f_Mo_worth_L14, g37, Option.bind_some, r106, Option.bind_some, if_neg (by rw [z_lt (by omega) (by omega)]; omega)]
  refine ⟨y_tst 0 X, ?_, (fo.trans c3).tst 0⟩
  unfold f_Mo_worth
  rw [om, Option.bind_some, show (0 : Int32) = z_n 0 from rfl, M_opens hS hP (by omega), z_sq, g36, Option.bind_some, r105, Option.bind_some, loop, z_sq, om, Option.bind_some, M_tests hS hP (by omega), z_sq, g42, Option.bind_some, r110, Option.bind_some]
/-- the lines as the reference has them -/
def y_lns (k : Nat) (fr to co : Nat → Int32) : List (List Nat × (l_V → Int32)) → Nat → Nat → Prop
  | [], _, _ => True
  | x :: r, j, b => (fr j = z_n (1000 * k + b) ∧ to j = z_n (1000 * k + b + x.1.length) ∧ b + x.1.length ≤ 1000 ∧ ∀ i, i < x.1.length → co (b + i) = z_n (x.1.getD i 0)) ∧ y_lns k fr to co r (j + 1) (b + x.1.length)
set_option maxRecDepth 100000 in
set_option maxHeartbeats 4000000 in
theorem M_let (hS : z_St S) (hP : z_Pt P) {k N : Nat} {fr to co : Nat → Int32} (hk : k < 4) (hN : N ≤ 6) : ∀ (L : List (List Nat × (l_V → Int32))) {I : z_MI} {j b f : Nat}, (∀ x, x ∈ L → y_e 4 6 x.1 x.2) → y_lns k fr to co L j b → j + L.length = N → I 104 k = z_n N → (∀ j, j < 6 → I 105 (6 * k + j) = fr j ∧ I 106 (6 * k + j) = to j) → (∀ i, i < 1000 → I 107 (1000 * k + i) = co i) → (∀ j, j < 13 → I 119 (j + 1) = v j) → L.length < f →
    ∃ X, f_Mo_isLet_L204 83 (z_n k) f (z_n (6 * k + j)) (z_h S I J P n) = some ((if k_lw L v = true then Sum.inl (z_n 1) else Sum.inr ()), z_h S X J P n) ∧ y_fr I X
  | _, I, j, b, 0, _, _, _, _, _, _, _, hf => absurd hf (by omega)
  | [], I, j, b, f + 1, _, _, hj, hI, _, _, _, _ => by
    have hj : j = N := hj
    subst hj
    have g35 : q_gr (q_gf (z_h S I J P n) 12 83 35) = some 104 := z_gr (s_83 hS) rfl (p_83_35 hP)
    have r104 : q_gi (q_ga (z_h S I J P n) 20 104 (z_n k)) = some (z_n j) := by rw [z_gia (s_104 hS) (by omega) (z_rpl (by omega)), hI]
    refine ⟨I, ?_, y_fr.rfl' I⟩
    rw [f_Mo_isLet_L204, g35, Option.bind_some, r104, Option.bind_some, show (6 : Int32) = z_n 6 from rfl, z_n_mul, z_n_add, if_neg (by rw [z_lt (by omega) (by omega)]; omega)]
    rfl
  | x :: r, I, j, b, f + 1, hx, hy, hj, hI, h5, h7, hv, hf => by
    have ll : (x :: r).length = r.length + 1 := rfl
    rw [ll] at hj hf
    obtain ⟨⟨y1, y2, y3, y4⟩, y5⟩ := hy
    have om := fun I J => z_ob (I := I) (J := J) (P := P) (n := n) (s_83 hS)
    have g35 : q_gr (q_gf (z_h S I J P n) 12 83 35) = some 104 := z_gr (s_83 hS) rfl (p_83_35 hP)
    have r104 : q_gi (q_ga (z_h S I J P n) 20 104 (z_n k)) = some (z_n N) := by rw [z_gia (s_104 hS) (by omega) (z_rpl (by omega)), hI]
    obtain ⟨h51, h52⟩ := h5 j (by omega)
    obtain ⟨X, a1, a2⟩ := M_worth (J := J) (n := n) (v := v) hS hP (I := I) (l := 6 * k + j) (b := 1000 * k + b) (e := 1000 * k + b + x.1.length) (L := x.1) (w := x.2) (by omega) (by omega) (h51.trans y1) (h52.trans y2) rfl (fun i hi => by rw [Nat.add_assoc, h7 _ (by omega)]; exact y4 i hi) hv (hx x (List.mem_cons_self ..))
    have pre : f_Mo_isLet_L204 83 (z_n k) (f + 1) (z_n (6 * k + j)) (z_h S I J P n) = if x.2 v = z_n 0 then f_Mo_isLet_L204 83 (z_n k) f (z_n (6 * k + j + 1)) (z_h S X J P n) else some (.inl (z_n 1), z_h S X J P n) := by
      rw [f_Mo_isLet_L204, g35, Option.bind_some, r104, Option.bind_some, show (6 : Int32) = z_n 6 from rfl, z_n_mul, z_n_add, if_pos (by rw [z_lt (by omega) (by omega)]; omega), om, Option.bind_some, a1, z_sq, show z_n (6 * k + j) + (1 : Int32) = z_n (6 * k + j + 1) from z_n_add _ 1]
      rfl
    rw [pre]
    by_cases w0 : x.2 v = z_n 0
    · obtain ⟨Y, d1, d2⟩ := M_let hS hP hk hN r (I := X) (j := j + 1) (b := b + x.1.length) (f := f) (fun y hy => hx y (List.mem_cons_of_mem _ hy)) y5 (by omega) (by rw [a2 104 (by omega)]; exact hI) (fun j hj => by rw [a2 105 (by omega), a2 106 (by omega)]; exact h5 j hj) (fun i hi => by rw [a2 107 (by omega)]; exact h7 i hi) (fun j hj => by rw [a2 119 (by omega)]; exact hv j hj) (by omega)
      refine ⟨Y, ?_, a2.trans d2⟩
      rw [if_pos w0, Nat.add_assoc, d1]
      have : k_lw (x :: r) v = k_lw r v := by
        show (!decide (x.2 v = z_n 0) || k_lw r v) = _
        rw [decide_eq_true w0]; rfl
      rw [this]
    · refine ⟨X, ?_, a2⟩
      have : k_lw (x :: r) v = true := by
        show (!decide (x.2 v = z_n 0) || k_lw r v) = _
        rw [decide_eq_false w0]; rfl
      rw [if_neg w0, this, if_pos rfl]
end
theorem l_M_of {k N : Nat} {fr to co : Nat → Int32} {L : List (List Nat × (l_V → Int32))} (hk : k < 4) (hN : N ≤ 6) (h : ∀ x, x ∈ L → y_e 4 6 x.1 x.2) (y : y_lns k fr to co L 0 0) (hL : L.length = N) : l_M k N fr to co (k_lw L) := by
  intro S I J P n v hS hP i1 i2 i3 i4
  exact M_let (J := J) (n := n) hS hP hk hN L (I := I) (j := 0) (b := 0) (f := q_FU) h y (by omega) i1 i2 i3 i4 (by rw [z_FU]; omega)
