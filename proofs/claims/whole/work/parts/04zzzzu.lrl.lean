/-! LAW: the class's call. -/
section
variable {S : z_SH} {I : z_MI} {J : z_MJ} {P : z_MP} {n : Nat × Nat} {T : k_T} {k : Nat}
theorem k_mx {m : Nat} (h : m ≤ 1000) : (if (0 : Int32) < z_n m then z_n m else (0 : Int32)) = z_n m := by
  by_cases q : m = 0
  · subst q; decide
  · rw [if_pos (by rw [show (0 : Int32) = z_n 0 from rfl, z_lt (by omega) (by omega)]; omega)]
theorem C_lmk (S : z_SH) (I : z_MI) (J : z_MJ) (P : z_MP) (n : Nat × Nat) : q_mk (z_h S I J P n) 11 [.null, .null, .null, .int 0, .int 0] = z_h (z_us S n.1 (11, [2, 2, 2, 0, 0])) (z_ri I n.1 fun _ => z_n 0) (z_rj J n.1 fun _ => 0) (z_rp P n.1 fun _ => none) (n.1 + 1, n.2 + 5) :=
  z_mk' (S := S) (I := I) (J := J) (P := P) (n := n) (t := 11) (vs := [Value.null, .null, .null, .int 0, .int 0]) [2, 2, 2, 0, 0] (f := fun _ => z_n 0) (g := fun _ => 0) (p := fun _ => none) rfl (by
    intro i k hk
    match i, hk with
    | 0, hk => cases hk; rfl
    | 1, hk => cases hk; rfl
    | 2, hk => cases hk; rfl
    | 3, hk => cases hk; rfl
    | 4, hk => cases hk; rfl
    | i + 5, hk => simp at hk)
theorem C_amk (S : z_SH) (I : z_MI) (J : z_MJ) (P : z_MP) (n : Nat × Nat) : q_mk (z_h S I J P n) 6 [.null, .int 0, .int 0, .null] = z_h (z_us S n.1 (6, [2, 0, 0, 2])) (z_ri I n.1 fun _ => z_n 0) (z_rj J n.1 fun _ => 0) (z_rp P n.1 fun _ => none) (n.1 + 1, n.2 + 4) :=
  z_mk' (S := S) (I := I) (J := J) (P := P) (n := n) (t := 6) (vs := [Value.null, .int 0, .int 0, .null]) [2, 0, 0, 2] (f := fun _ => z_n 0) (g := fun _ => 0) (p := fun _ => none) rfl (by
    intro i k hk
    match i, hk with
    | 0, hk => cases hk; rfl
    | 1, hk => cases hk; rfl
    | 2, hk => cases hk; rfl
    | 3, hk => cases hk; rfl
    | i + 4, hk => simp at hk)
set_option maxRecDepth 100000 in
set_option maxHeartbeats 4000000 in
theorem C_lrinit (hS : z_St S) (hn : 131 ≤ n.1) (hT : T.1 ≤ 1000) (h9 : I 9 1 = z_n T.1) : ∃ S' I' J' P', f_Lr_init n.1 9 12 (q_mk (z_h S I J P n) 11 [.null, .null, .null, .int 0, .int 0]) = some ((), z_h S' I' J' P' (n.1 + 2, n.2 + 5 + T.1)) ∧ z_ag n.1 z_nil S I J P S' I' J' P' ∧ y_cl S' P' n.1 (n.1 + 1) T ∧ I' n.1 3 = z_n 0 ∧ I' n.1 4 = z_n 0 := by
  rw [C_lmk]
  have s0 : (z_us S n.1 (11, [2, 2, 2, 0, 0])) n.1 = some (11, [2, 2, 2, 0, 0]) := by rw [z_us_s]
  have i0 : ∀ i, (z_ri I n.1 fun _ => z_n 0) n.1 i = z_n 0 := fun i => by rw [z_ri_s]
  have ag0 : z_ag n.1 z_nil S I J P (z_us S n.1 (11, [2, 2, 2, 0, 0])) (z_ri I n.1 fun _ => z_n 0) (z_rj J n.1 fun _ => 0) (z_rp P n.1 fun _ => none) := fun a ha =>
    ⟨⟨z_us_a (by omega), z_rp_a (by omega)⟩, fun _ => ⟨z_ri_a (by omega), z_rj_a (by omega)⟩⟩
  generalize z_us S n.1 (11, [2, 2, 2, 0, 0]) = S1 at *
  generalize (z_ri I n.1 fun _ => z_n 0) = I1 at *
  generalize (z_rj J n.1 fun _ => 0) = J1 at *
  generalize (z_rp P n.1 fun _ => none) = P1 at *
  have w := fun (S2 : z_SH) (X : z_MI) (Z : z_MJ) (Q : z_MP) (m : Nat × Nat) (h : S2 n.1 = some (11, [2, 2, 2, 0, 0])) (i v : Nat) (hi : i < 3) => z_sfr (S := S2) (I := X) (J := Z) (P := Q) (n := m) (i := i) (v := v) h (by omega) (by
    match i, hi with
    | 0, _ => rfl
    | 1, _ => rfl
    | 2, _ => rfl)
  have hS1 := hS.mono ag0 hn
  have r9 : ∀ Q m, q_gi (q_gf (z_h S1 I1 J1 Q m) 1 9 1) = some (z_n T.1) := fun Q m => by rw [z_gi (s_9 hS1) rfl, (ag0 9 (by omega)).2 rfl |>.1, h9]
  have ma : ∀ (Q : z_MP) (m : Nat × Nat) (K : q_H → Nat → Option (Unit × q_H)), q_ma (z_h S1 I1 J1 Q m) 20 (List.replicate T.1 (.int 0)) K = K (q_mk (z_h S1 I1 J1 Q m) 20 (List.replicate T.1 (.int 0))) m.1 := fun _ _ _ => rfl
  refine ⟨z_us S1 (n.1 + 1) (20, List.replicate T.1 0), z_ri I1 (n.1 + 1) fun _ => z_n 0, z_rj J1 (n.1 + 1) fun _ => 0, z_pu (z_rp (z_pu (z_pu P1 n.1 0 (some 9)) n.1 1 (some 12)) (n.1 + 1) fun _ => none) n.1 2 (some (n.1 + 1)), ?_, fun a ha => ?_, ⟨?_, ?_, ?_, ?_, ?_, by omega, by omega, by omega⟩, ?_, ?_⟩
  · unfold f_Lr_init
    rw [w _ _ _ _ _ s0 0 _ (by omega), Option.bind_some, w _ _ _ _ _ s0 1 _ (by omega), Option.bind_some, r9, Option.bind_some, k_mx hT, z_n_nat (by omega), if_neg (show ¬ ¬ (¬ z_n T.1 < (0 : Int32) ∧ T.1 ≤ 100000) from fun q => q ⟨by rw [show (0 : Int32) = z_n 0 from rfl, z_lt (by omega) (by omega)]; omega, by omega⟩), ma, z_mki]
    dsimp only
    rw [w _ _ _ _ _ (by rw [z_us_a (by omega)]; exact s0) 2 _ (by omega), Option.bind_some]
  · obtain ⟨c1, c2⟩ := ag0 a ha
    refine ⟨⟨(z_us_a (by omega)).trans c1.1, ?_⟩, fun hx => ⟨(z_ri_a (by omega)).trans (c2 hx).1, (z_rj_a (by omega)).trans (c2 hx).2⟩⟩
    rw [z_pu_r (by omega), z_rp_a (by omega), z_pu_r (by omega), z_pu_r (by omega)]; exact c1.2
  · rw [z_us_a (by omega)]; exact s0
  · rw [z_pu_i (by omega), z_rp_a (by omega), z_pu_i (by omega), z_pu_s]
  · rw [z_pu_i (by omega), z_rp_a (by omega), z_pu_s]
  · rw [z_pu_s]
  · rw [z_us_s]
  · rw [z_ri_a (by omega)]; exact i0 3
  · rw [z_ri_a (by omega)]; exact i0 4
set_option maxRecDepth 100000 in
set_option maxHeartbeats 4000000 in
theorem C_lainit {q c : Nat} {z m : Int32} (h : S q = some (6, [2, 0, 0, 2])) (hq : 131 ≤ q) (hn : q < n.1) : ∃ S' I' J' P', f_La_init q c z m (z_h S I J P n) = some ((), z_h S' I' J' P' (n.1 + 1, n.2 + 32)) ∧ (∀ a, a < n.1 → S' a = S a ∧ (a ≠ q → P' a = P a ∧ I' a = I a) ∧ J' a = J a) ∧ P' q 0 = some c ∧ P' q 3 = some n.1 ∧ I' q 1 = z ∧ I' q 2 = m ∧ S' n.1 = some (20, List.replicate 32 0) := by
  have h' : (z_us S n.1 (20, List.replicate 32 0)) q = some (6, [2, 0, 0, 2]) := by rw [z_us_a (by omega)]; exact h
  have ma : ∀ K : q_H → Nat → Option (Unit × q_H), q_ma (z_h S I J P n) 20 (List.replicate 32 (.int 0)) K = K (q_mk (z_h S I J P n) 20 (List.replicate 32 (.int 0))) n.1 := fun _ => rfl
  have t0 : (z_us S n.1 (20, List.replicate 32 0)) n.1 = some (20, List.replicate 32 0) := z_us_s _ _ _
  have ha : ∀ a, a < n.1 → (z_us S n.1 (20, List.replicate 32 0)) a = S a ∧ (z_rp P n.1 fun _ => none) a = P a ∧ (z_ri I n.1 fun _ => z_n 0) a = I a ∧ (z_rj J n.1 fun _ => 0) a = J a := fun a ha => ⟨z_us_a (by omega), z_rp_a (by omega), z_ri_a (by omega), z_rj_a (by omega)⟩
  unfold f_La_init
  rw [ma, z_mki]
  generalize z_us S n.1 (20, List.replicate 32 0) = S1 at *
  generalize (z_ri I n.1 fun _ => z_n 0) = I1 at *
  generalize (z_rj J n.1 fun _ => 0) = J1 at *
  generalize (z_rp P n.1 fun _ => none) = P1 at *
  refine ⟨S1, z_up (z_up I1 q 1 z) q 2 m, J1, z_pu (z_pu P1 q 3 (some n.1)) q 0 (some c), ?_, fun a h1 => ⟨(ha a h1).1, fun ne => ⟨?_, ?_⟩, (ha a h1).2.2.2⟩, z_pu_s _ _ _ _, ?_, ?_, z_up_s _ _ _ _, t0⟩
  · rw [z_sfr h' (by omega) rfl, Option.bind_some, z_sfr h' (by omega) rfl, Option.bind_some, z_sfi h' (by omega) rfl, Option.bind_some, z_sfi h' (by omega) rfl, Option.bind_some]
  · rw [z_pu_r ne, z_pu_r ne]; exact (ha a h1).2.1
  · rw [z_ups ne, z_ups ne]; exact (ha a h1).2.2.1
  · rw [z_pu_i (by omega), z_pu_s]
  · rw [z_up_i (by omega), z_up_s]
/-- what the class's call of LAW leaves below m -/
def k_lc (m : Nat) (S : z_SH) (I : z_MI) (J : z_MJ) (P : z_MP) (S' : z_SH) (X : z_MI) (Z : z_MJ) (P' : z_MP) : Prop := ∀ a, a < m → S' a = S a ∧ (a ≠ 34 → P' a = P a) ∧ (a ≠ 9 → X a = I a ∧ Z a = J a)
def k_lk (n T1 k : Nat) (P : z_MP) (S' : z_SH) (X : z_MI) (P' : z_MP) (L : y_LL) : Prop := (∀ i, P' 34 i = if i = k then some (n + 2) else P 34 i) ∧ (S' (n + 2) = some (6, [2, 0, 0, 2]) ∧ P' (n + 2) 0 = some (n + 1) ∧ P' (n + 2) 3 = some (n + 3) ∧ X (n + 2) 1 = z_n (y_fc L).length ∧ X (n + 2) 2 = z_n L.length) ∧ (S' (n + 1) = some (20, List.replicate T1 0) ∧ S' (n + 3) = some (20, List.replicate 32 0)) ∧ ∀ i, i < (y_fc L).length → X (n + 1) i = z_n ((y_fc L).getD i 0)
set_option maxRecDepth 100000 in
set_option maxHeartbeats 4000000 in
theorem C_law (hS : z_St S) (hP : z_Pt P) (hn : 131 ≤ n.1) (hc : i_ct I J) (hk : k < 4) (hT : k_hd (I 9 1) (I 10) T) {O : y_O2} (G : y_G2 T 0 0 O) (C : y_C2 T n.1 (n.1 + 1) 0 0 O) : match O with
  | .inl F => ∃ S' X Z P', f_Rs_law 8 (z_n k) (z_h S I J P n) = some (z_n F, z_h S' X Z P' (n.1 + 2, n.2 + 5 + T.1)) ∧ k_lc n.1 S I J P S' X Z P' ∧ X 9 1 = z_n 0 ∧ P' 34 = P 34
  | .inr L => ∃ S' X Z P', f_Rs_law 8 (z_n k) (z_h S I J P n) = some (z_n 0, z_h S' X Z P' (n.1 + 4, n.2 + 5 + T.1 + 36)) ∧ k_lc n.1 S I J P S' X Z P' ∧ X 9 1 = z_n 0 ∧ k_lk n.1 T.1 k P S' X P' L := by
  obtain ⟨S1, I1, J1, P1, a1, a2, a3, a4, a5⟩ := C_lrinit (J := J) (P := P) hS hn hT.1 hT.2.1
  have hS1 := hS.mono a2 hn
  have hP1 := hP.mono a2 hn
  have ag := fun a (ha : a < n.1) => a2 a ha
  have e := fun a (ha : a < 131) => (ag a (by omega)).2 rfl
  have st : y_st (z_up I1 9 2 (z_n 0)) J1 T := by
    obtain ⟨c1, c2, c3, c4, c5⟩ := hc
    refine ⟨⟨fun i hi => ?_, ?_⟩, ?_, fun i hi => ?_⟩
    · rw [z_ups (by omega), (e 7 (by omega)).1]; exact c4 i hi
    · rw [z_ups (by omega), (e 4 (by omega)).1]; exact c5
    · rw [z_up_i (by omega), z_ups (by omega), (e 9 (by omega)).1, (e 10 (by omega)).1]; exact hT
    · rw [(e 12 (by omega)).2]; exact c2 i hi
  have m := C S1 (z_up I1 9 2 (z_n 0)) J1 P1 (n.1 + 2, n.2 + 5 + T.1) 0 q_FU hS1 hP1 a3 st (z_up_s _ _ _ _) (by rw [z_ups (by omega)]; exact a4) (by omega) (by rw [z_ups (by omega)]; exact a5) (by rw [z_FU]; omega)
  have mk : ∀ K : q_H → Nat → Option (Int32 × q_H), q_ma (z_h S I J P n) 11 [.null, .null, .null, .int 0, .int 0] K = K (q_mk (z_h S I J P n) 11 [.null, .null, .null, .int 0, .int 0]) n.1 := fun _ => rfl
  have hmk : ∃ S8 I8 J8 P8 n8, q_mk (z_h S I J P n) 11 [.null, .null, .null, .int 0, .int 0] = z_h S8 I8 J8 P8 n8 ∧ S8 8 = S 8 ∧ P8 8 = P 8 := ⟨_, _, _, _, _, C_lmk S I J P n, z_us_a (by omega), z_rp_a (by omega)⟩
  obtain ⟨S8, I8, J8, P8, n8, e8, es8, ep8⟩ := hmk
  have k0 : q_gr (q_gf (z_h S8 I8 J8 P8 n8) 0 8 0) = some 9 := z_gr (es8.trans (s_8 hS)) rfl (by rw [ep8]; exact p_8_0 hP)
  have k2 : q_gr (q_gf (z_h S8 I8 J8 P8 n8) 0 8 2) = some 12 := z_gr (es8.trans (s_8 hS)) rfl (by rw [ep8]; exact p_8_2 hP)
  have oS : ∀ X Z Q m, q_ob (z_h S1 X Z Q m) 11 n.1 = some (z_vs X Z Q n.1 [2, 2, 2, 0, 0]) := fun _ _ _ _ => z_ob a3.1
  have g0 : ∀ X Z m, q_gr (q_gf (z_h S1 X Z P1 m) 0 8 0) = some 9 := fun _ _ _ => z_gr (s_8 hS1) rfl (p_8_0 hP1)
  have w91 := fun X Z m v => z_sfi (S := S1) (I := X) (J := Z) (P := P1) (n := m) (i := 1) (v := v) (s_9 hS1) (by decide) rfl
  have w92 := fun X Z m v => z_sfi (S := S1) (I := X) (J := Z) (P := P1) (n := m) (i := 2) (v := v) (s_9 hS1) (by decide) rfl
  have pre : ∀ (r : Int32) (X : z_MI) (Z : z_MJ), f_Lr_parse_L9 n.1 q_FU (z_n 0) (z_h S1 (z_up I1 9 2 (z_n 0)) J1 P1 (n.1 + 2, n.2 + 5 + T.1)) = some (.inl r, z_h S1 X Z P1 (n.1 + 2, n.2 + 5 + T.1)) → f_Rs_law 8 (z_n k) (z_h S I J P n) = if r = (0 : Int32) then ((q_gr (q_gf (z_h S1 (z_up X 9 1 (z_n 0)) Z P1 (n.1 + 2, n.2 + 5 + T.1)) 0 8 8)).bind fun x18 => q_ma (z_h S1 (z_up X 9 1 (z_n 0)) Z P1 (n.1 + 2, n.2 + 5 + T.1)) 6 [.null, .int 0, .int 0, .null] fun σ19 a20 => (q_gr (q_gf σ19 11 n.1 2)).bind fun x21 => (q_gi (q_gf σ19 11 n.1 3)).bind fun x22 => (q_gi (q_gf σ19 11 n.1 4)).bind fun x23 => q_sq (f_La_init a20 x21 x22 x23 σ19) fun (_ : Unit) σ24 => (q_ob σ24 6 a20).bind fun w27 => (q_sa σ24 27 x18 (z_n k) (.ref a20)).bind fun σ26 => some (r, σ26)) else some (r, z_h S1 (z_up X 9 1 (z_n 0)) Z P1 (n.1 + 2, n.2 + 5 + T.1)) := by
    intro r X Z h
    unfold f_Rs_law
    rw [show (0 : Int32) = z_n 0 from rfl, show (3 : Int32) = z_n 3 from rfl, C_in (by omega) (by omega), z_sq, if_neg (show ¬ z_n 1 = z_n 0 by decide), show z_n 0 = (0 : Int32) from rfl, mk, e8, k0, Option.bind_some, k2, Option.bind_some, ← e8, a1, z_sq, oS, Option.bind_some]
    unfold f_Lr_parse f_Ta_start
    rw [z_gr a3.1 rfl a3.2.1, Option.bind_some, z_ob (s_9 hS1), Option.bind_some, show (0 : Int32) = z_n 0 from rfl, w92, Option.bind_some, z_sq, h, z_sq]
    dsimp only
    rw [z_sq, g0, Option.bind_some, w91, Option.bind_some]
  have lo : ∀ X Z, y_cg n.1 (n.1 + 1) (z_up I1 9 2 (z_n 0)) J1 X Z → ∀ a, a < n.1 → a ≠ 9 → z_up X 9 1 (z_n 0) a = I a ∧ Z a = J a := fun X Z h a ha h9 => by
    obtain ⟨d1, d2⟩ := (ag a ha).2 rfl
    exact ⟨by rw [z_ups h9, h.1 a h9 (by omega) (by omega), z_ups h9, d1], (h.2.1 a h9).trans d2⟩
  rcases O with F | L
  · have G : 0 < F ∧ F < 20000 := G
    obtain ⟨X, Z, b1, b2⟩ := m
    refine ⟨S1, z_up X 9 1 (z_n 0), Z, P1, ?_, fun a ha => ⟨(ag a ha).1.1, fun _ => (ag a ha).1.2, fun h9 => lo X Z b2 a ha h9⟩, z_up_s _ _ _ _, (ag 34 (by omega)).1.2⟩
    rw [pre _ X Z b1, if_neg (y_n0 G.1 G.2)]
  · obtain ⟨X, Z, b1, b2, b3, b4⟩ := m
    rw [Nat.zero_add] at b3
    have b41 : X n.1 3 = z_n (y_fc L).length := by rw [b4.1, Nat.zero_add]
    have mk6 : ∀ (X : z_MI) (Z : z_MJ) (m : Nat × Nat) (K : q_H → Nat → Option (Int32 × q_H)), q_ma (z_h S1 X Z P1 m) 6 [.null, .int 0, .int 0, .null] K = K (q_mk (z_h S1 X Z P1 m) 6 [.null, .int 0, .int 0, .null]) m.1 := fun _ _ _ _ => rfl
    have g8 : ∀ X Z m, q_gr (q_gf (z_h S1 X Z P1 m) 0 8 8) = some 34 := fun _ _ _ => z_gr (s_8 hS1) rfl (p_8_8 hP1)
    have q0 : (z_us S1 (n.1 + 2) (6, [2, 0, 0, 2])) (n.1 + 2) = some (6, [2, 0, 0, 2]) := z_us_s _ _ _
    have qa : ∀ a, a < n.1 + 2 → (z_us S1 (n.1 + 2) (6, [2, 0, 0, 2])) a = S1 a ∧ (z_rp P1 (n.1 + 2) fun _ => none) a = P1 a ∧ (z_ri (z_up X 9 1 (z_n 0)) (n.1 + 2) fun _ => z_n 0) a = z_up X 9 1 (z_n 0) a ∧ (z_rj Z (n.1 + 2) fun _ => 0) a = Z a := fun a ha => ⟨z_us_a (by omega), z_rp_a (by omega), z_ri_a (by omega), z_rj_a (by omega)⟩
    have e6 := C_amk S1 (z_up X 9 1 (z_n 0)) Z P1 (n.1 + 2, n.2 + 5 + T.1)
    dsimp only at e6
    generalize z_us S1 (n.1 + 2) (6, [2, 0, 0, 2]) = S2 at *
    generalize (z_ri (z_up X 9 1 (z_n 0)) (n.1 + 2) fun _ => z_n 0) = X2 at *
    generalize (z_rj Z (n.1 + 2) fun _ => 0) = Z2 at *
    generalize (z_rp P1 (n.1 + 2) fun _ => none) = P2 at *
    have sr : S2 n.1 = some (11, [2, 2, 2, 0, 0]) := (qa n.1 (by omega)).1.trans a3.1
    have r2 : ∀ m, q_gr (q_gf (z_h S2 X2 Z2 P2 m) 11 n.1 2) = some (n.1 + 1) := fun _ => z_gr sr rfl (by rw [(qa n.1 (by omega)).2.1]; exact a3.2.2.2.1)
    have x2r : ∀ i, X2 n.1 i = X n.1 i := fun i => by rw [(qa n.1 (by omega)).2.2.1, z_ups (by omega)]
    have r3 : ∀ m, q_gi (q_gf (z_h S2 X2 Z2 P2 m) 11 n.1 3) = some (z_n (y_fc L).length) := fun _ => by rw [z_gi sr rfl, x2r, b41]
    have r4 : ∀ m, q_gi (q_gf (z_h S2 X2 Z2 P2 m) 11 n.1 4) = some (z_n L.length) := fun _ => by rw [z_gi sr rfl, x2r, b3]
    obtain ⟨S3, X3, Z3, P3, d1, d2, d3, d4, d5, d6, d7⟩ := C_lainit (I := X2) (J := Z2) (P := P2) (n := (n.1 + 2 + 1, n.2 + 5 + T.1 + 4)) (c := n.1 + 1) (z := z_n (y_fc L).length) (m := z_n L.length) q0 (by omega) (by show n.1 + 2 < n.1 + 2 + 1; omega)
    have d2 : ∀ a, a < n.1 + 3 → S3 a = S2 a ∧ (a ≠ n.1 + 2 → P3 a = P2 a ∧ X3 a = X2 a) ∧ Z3 a = Z2 a := d2
    have s3 : S3 (n.1 + 2) = some (6, [2, 0, 0, 2]) := (d2 _ (by omega)).1.trans q0
    have s34 : S3 34 = S1 34 := (d2 34 (by omega)).1.trans (qa 34 (by omega)).1
    have w34 : ∀ m v, q_sa (z_h S3 X3 Z3 P3 m) 27 34 (z_n k) (.ref v) = some (z_h S3 X3 Z3 (z_pu P3 34 k (some v)) m) := fun _ _ => z_sar (s34.trans (s_34 hS1)) (by decide) (show k < 2147483648 by omega) (z_rpl (by omega))
    have o6 : ∀ m, q_ob (z_h S3 X3 Z3 P3 m) 6 (n.1 + 2) = some (z_vs X3 Z3 P3 (n.1 + 2) [2, 0, 0, 2]) := fun _ => z_ob s3
    have lo3 : ∀ a, a < n.1 → a ≠ 9 → X3 a = I a ∧ Z3 a = J a := fun a ha h9 => by
      obtain ⟨l1, l2⟩ := lo X Z b2 a ha h9
      have dd := d2 a (by omega)
      have qq := qa a (by omega)
      exact ⟨((dd.2.1 (by omega)).2.trans qq.2.2.1).trans l1, (dd.2.2.trans qq.2.2.2).trans l2⟩
    have p3 : ∀ a, a < n.1 + 2 → P3 a = P1 a := fun a ha => ((d2 a (by omega)).2.1 (by omega)).1.trans (qa a ha).2.1
    refine ⟨S3, X3, Z3, z_pu P3 34 k (some (n.1 + 2)), ?_, fun a ha => ⟨((d2 a (by omega)).1.trans (qa a (by omega)).1).trans (ag a ha).1.1, fun h => ?_, fun h9 => lo3 a ha h9⟩, ?_, fun i => ?_, ⟨s3, ?_, ?_, d5, d6⟩, ⟨?_, d7⟩, fun i hi => ?_⟩
    · rw [pre _ X Z b1, if_pos (show z_n 0 = (0 : Int32) from rfl), g8, Option.bind_some, mk6, e6]
      dsimp only
      rw [r2, Option.bind_some, r3, Option.bind_some, r4, Option.bind_some, d1, z_sq, o6, Option.bind_some, w34, Option.bind_some]
    · rw [z_pu_r h, p3 a (by omega)]; exact (ag a ha).1.2
    · rw [((d2 9 (by omega)).2.1 (by omega)).2, (qa 9 (by omega)).2.2.1, z_up_s]
    · unfold z_pu
      by_cases q : i = k
      · rw [if_pos ⟨rfl, q⟩, if_pos q]
      · rw [if_neg (fun x => q x.2), if_neg q, p3 34 (by omega), (ag 34 (by omega)).1.2]
    · rw [z_pu_r (by omega)]; exact d3
    · rw [z_pu_r (by omega)]; exact d4
    · rw [(d2 (n.1 + 1) (by omega)).1, (qa (n.1 + 1) (by omega)).1]; exact a3.2.2.2.2.1
    · rw [((d2 (n.1 + 1) (by omega)).2.1 (by omega)).2, (qa (n.1 + 1) (by omega)).2.2.1, z_ups (by omega)]
      have := b4.2.2 i hi
      rw [Nat.zero_add] at this
      exact this
end
