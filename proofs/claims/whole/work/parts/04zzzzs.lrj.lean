/-! LAW: all lines. -/
abbrev y_LL : Type := List (List Nat × List Nat × (l_V → Int32))
def y_fc : y_LL → List Nat
  | [] => []
  | x :: r => x.1 ++ [20000] ++ y_fc r
def y_fm : y_LL → List Nat
  | [] => []
  | x :: r => x.2.1 ++ y_fm r
def y_lz (A B : Nat → Int32) : y_LL → Nat → Nat → Prop
  | [], _, _ => True
  | x :: r, j, b => (A j = z_n (4000 + b) ∧ B j = z_n (4000 + b + x.2.1.length)) ∧ y_lz A B r (j + 1) (b + x.2.1.length)
abbrev y_O2 : Type := Nat ⊕ y_LL
def y_G2 (T : k_T) (n p : Nat) (O : y_O2) : Prop := match O with
  | .inl F => 0 < F ∧ F < 20000
  | .inr L => n + L.length ≤ 6 ∧ (∀ x, x ∈ L → k_ec 32 x.1 x.2.2 ∧ y_e 4 6 x.2.1 x.2.2) ∧ p + (y_fc L).length ≤ T.1 ∧ p + (y_fm L).length ≤ T.1
def y_cg (r c : Nat) (I : z_MI) (J : z_MJ) (X : z_MI) (Z : z_MJ) : Prop := (∀ a, a ≠ 9 → a ≠ r → a ≠ c → X a = I a) ∧ (∀ a, a ≠ 9 → Z a = J a) ∧ X 9 1 = I 9 1
theorem y_cf.cg {r c : Nat} {I X : z_MI} {J Z : z_MJ} (h : y_cf r c I J X Z) : y_cg r c I J X Z := ⟨h.1, h.2.1, h.2.2.1⟩
theorem y_cg.trans {r c : Nat} {I X Y : z_MI} {J Z W : z_MJ} (h : y_cg r c I J X Z) (g : y_cg r c X Z Y W) : y_cg r c I J Y W :=
  ⟨fun a h1 h2 h3 => (g.1 a h1 h2 h3).trans (h.1 a h1 h2 h3), fun a h1 => (g.2.1 a h1).trans (h.2.1 a h1), g.2.2.trans h.2.2⟩
def y_C2 (T : k_T) (r c n p : Nat) (O : y_O2) : Prop := ∀ (S : z_SH) (I : z_MI) (J : z_MJ) (P : z_MP) (m : Nat × Nat) (z f : Nat), z_St S → z_Pt P → y_cl S P r c T → y_st I J T → I 9 2 = z_n p → I r 3 = z_n z → z ≤ p → I r 4 = z_n n → 7 < f + n → match O with
  | .inl F => ∃ X Z, f_Lr_parse_L9 r f (z_n n) (z_h S I J P m) = some (.inl (z_n F), z_h S X Z P m) ∧ y_cg r c I J X Z
  | .inr L => ∃ X Z, f_Lr_parse_L9 r f (z_n n) (z_h S I J P m) = some (.inl (z_n 0), z_h S X Z P m) ∧ y_cg r c I J X Z ∧ X r 4 = z_n (n + L.length) ∧ y_em r c z (y_fc L) I X
def y_M2 (T : k_T) (n p : Nat) (O : y_O2) : Prop := ∀ (S : z_SH) (I : z_MI) (J : z_MJ) (P : z_MP) (m : Nat × Nat) (z f : Nat), z_St S → z_Pt P → k_hd (I 83 18) (I 99) T → k_M T p I J → I 83 39 = z_n (4000 + z) → z ≤ p → I 104 4 = z_n n → 7 < f + n → match O with
  | .inl F => ∃ X Z, f_Mo_readsLaw_L14 83 f (z_h S I J P m) = some (.inl (z_n 0), z_h S X Z P m) ∧ y_lf n I J X Z ∧ X 83 24 = z_n F
  | .inr L => ∃ X Z, f_Mo_readsLaw_L14 83 f (z_h S I J P m) = some (.inr (), z_h S X Z P m) ∧ y_lf n I J X Z ∧ y_me z (y_fm L) I X ∧ X 104 4 = z_n (n + L.length) ∧ y_lz (fun j => X 105 (24 + j)) (fun j => X 106 (24 + j)) L n z
section
variable {T : k_T} {r c p n : Nat}

set_option maxRecDepth 100000 in
set_option maxHeartbeats 4000000 in
theorem C_lawLoop {S : z_SH} {I : z_MI} {J : z_MJ} {P : z_MP} {m : Nat × Nat} (hS : z_St S) (hP : z_Pt P) (b : y_cl S P r c T) (s : y_st I J T) (hp : p ≤ T.1) (h2 : I 9 2 = z_n p) (n6 : n ≤ 6) : ∃ X Z, y_cf r c I J X Z ∧ (∀ a, a ≠ 9 → X a = I a) ∧ k_C T p X Z ∧ ∀ f, f_Lr_parse_L9 r (f + 1) (z_n n) (z_h S I J P m) = if k_k T p = 0 then some (.inl (z_n 0), z_h S X Z P m) else if ¬ k_ix T k_w2 p = 16 then some (.inl (z_n (k_fl T 1 p)), z_h S X Z P m) else if n = 6 then some (.inl (z_n (k_fl T 5 p)), z_h S X Z P m) else q_sq (f_Lr_parseLawLine r (z_h S X Z P m)) fun x22 σ21 => if x22 = (0 : Int32) then ((q_sf σ21 11 r 4 (.int (z_n (n + 1)))).bind fun σ24 => f_Lr_parse_L9 r f (z_n (n + 1)) σ24) else (some ((.inl x22), σ21)) := by
  obtain ⟨X, Z, a1, a2, a3, a4, a5⟩ := C_adv (P := P) (n := m) hS hP s.1 s.2.1 hp h2
  have cf : y_cf r c I J X Z := ⟨fun a h1 _ _ => a2 a h1, a4, a3, fun i _ => by rw [a2 r b.r9.1]⟩
  refine ⟨X, Z, cf, a2, a5, fun f => ?_⟩
  have k4 := @k_k4 T p
  have r3 : q_gi (q_gf (z_h S X Z P m) 1 9 3) = some (z_n (k_k T p)) := by rw [z_gi (s_9 hS) rfl, a5.2.1]
  rw [f_Lr_parse_L9, if_neg (show ¬ (6 : Int32) < z_n n by rw [show (6 : Int32) = z_n 6 from rfl, z_lt (by omega) (by omega)]; omega), z_gr b.1 rfl b.2.1, Option.bind_some, z_ob (s_9 hS), Option.bind_some, a1, z_sq, z_gr b.1 rfl b.2.1, Option.bind_some, r3, Option.bind_some]
  by_cases q0 : k_k T p = 0
  · rw [if_pos (show z_n (k_k T p) = (0 : Int32) by rw [q0]; rfl), if_pos q0]
    rfl
  rw [if_neg (show ¬ z_n (k_k T p) = (0 : Int32) by rw [show (0 : Int32) = z_n 0 from rfl, z_eq (by omega) (by omega)]; exact q0), if_neg q0, Option.bind_some, z_gr b.1 rfl b.2.2.1, Option.bind_some, z_ob (s_9 hS), Option.bind_some, C_word hS hP (b.st cf s) a5, z_sq, show (16 : Int32) = z_n 16 from rfl]
  by_cases q16 : k_ix T k_w2 p = 16
  · rw [if_pos ((y_xw (by omega)).mpr q16), if_neg (show ¬ ¬ k_ix T k_w2 p = 16 from fun e => e q16)]
    by_cases q6 : n = 6
    · rw [if_pos (show z_n n = (6 : Int32) by rw [q6]; rfl), if_pos q6, z_gr b.1 rfl b.2.1, Option.bind_some, z_ob (s_9 hS), Option.bind_some, show (5 : Int32) = z_n 5 from rfl, C_fault hS a5.2.2.1, z_sq]
    · rw [if_neg (show ¬ z_n n = (6 : Int32) by rw [show (6 : Int32) = z_n 6 from rfl, z_eq (by omega) (by omega)]; exact q6), if_neg q6, z_ob b.1, Option.bind_some, show z_n n + (1 : Int32) = z_n (n + 1) from z_n_add n 1]
  · rw [if_neg (fun e => q16 ((y_xw (by omega)).mp e)), if_pos q16, z_gr b.1 rfl b.2.1, Option.bind_some, z_ob (s_9 hS), Option.bind_some, show (1 : Int32) = z_n 1 from rfl, C_fault hS a5.2.2.1, z_sq]
theorem y_lines_end (hp : p ≤ T.1) (n6 : n ≤ 6) (q0 : k_k T p = 0) : ∃ O, y_G2 T n p O ∧ y_C2 T r c n p O ∧ y_M2 T n p O := by
  refine ⟨.inr [], ⟨by show n + 0 ≤ 6; omega, fun x hx => absurd hx List.not_mem_nil, hp, hp⟩, ?_, ?_⟩
  · intro S I J P m z f hS hP b s h2 hz zp h4 hf
    obtain ⟨f, rfl⟩ : ∃ f', f = f' + 1 := ⟨f - 1, by omega⟩
    obtain ⟨X, Z, a1, a2, a3, a4⟩ := C_lawLoop (m := m) hS hP b s hp h2 n6
    exact ⟨X, Z, by rw [a4, if_pos q0], a1.cg, by rw [a2 r b.r9.1, h4]; rfl, y_em.nil (by rw [a2 r b.r9.1, hz]) (a2 c b.r9.2)⟩
  · intro S I J P m z f hS hP hT' kM h39 zp h4 hf
    obtain ⟨f, rfl⟩ : ∃ f', f = f' + 1 := ⟨f - 1, by omega⟩
    have r21 : q_gi (q_gf (z_h S I J P m) 12 83 21) = some (z_n 0) := by rw [z_gi (s_83 hS) rfl, kM.2.2.1, q0]
    refine ⟨I, J, ?_, (y_mf.rfl' I J).lf n, ⟨by rw [h39]; rfl, fun _ _ => rfl, fun i hi => absurd hi (Nat.not_lt_zero _)⟩, by rw [h4]; rfl, trivial⟩
    rw [f_Mo_readsLaw_L14, r21, Option.bind_some, if_pos (show z_n 0 = (0 : Int32) from rfl)]
theorem y_lines_e1 (hT : T.1 ≤ 1000) (hp : p ≤ T.1) (n6 : n ≤ 6) (q0 : ¬ k_k T p = 0) (q16 : ¬ k_ix T k_w2 p = 16) : ∃ O, y_G2 T n p O ∧ y_C2 T r c n p O ∧ y_M2 T n p O := by
  have k4 := @k_k4 T p
  refine ⟨.inl (k_fl T 1 p), y_fl hT hp (by omega) (by omega), ?_, ?_⟩
  · intro S I J P m z f hS hP b s h2 hz zp h4 hf
    obtain ⟨f, rfl⟩ : ∃ f', f = f' + 1 := ⟨f - 1, by omega⟩
    obtain ⟨X, Z, a1, a2, a3, a4⟩ := C_lawLoop (m := m) hS hP b s hp h2 n6
    exact ⟨X, Z, by rw [a4, if_neg q0, if_pos q16], a1.cg⟩
  · intro S I J P m z f hS hP hT' kM h39 zp h4 hf
    obtain ⟨f, rfl⟩ : ∃ f', f = f' + 1 := ⟨f - 1, by omega⟩
    have om := fun I J => z_ob (I := I) (J := J) (P := P) (n := m) (s_83 hS)
    have r21 : q_gi (q_gf (z_h S I J P m) 12 83 21) = some (z_n (k_k T p)) := by rw [z_gi (s_83 hS) rfl, kM.2.2.1]
    have w1 : f_Mo_isWord 83 (8903 : Int64) (z_h S I J P m) = some (z_n 0, z_h S I J P m) := (M_wd2 hS kM (i := 16) (by omega)).trans (by rw [z_b_f q16])
    have er := M_errs (n := m) hS hP kM 1
    refine ⟨_, J, ?_, (y_mf_24 _).lf n, z_up_s _ _ _ _⟩
    rw [f_Mo_readsLaw_L14, r21, Option.bind_some, if_neg (show ¬ z_n (k_k T p) = (0 : Int32) by rw [show (0 : Int32) = z_n 0 from rfl, z_eq (by omega) (by omega)]; exact q0), om, Option.bind_some, w1, z_sq, if_pos (show z_n 0 = (0 : Int32) from rfl), om, Option.bind_some, show (1 : Int32) = z_n 1 from rfl, er, z_sq, if_neg (by decide)]
theorem y_lines_e5 (hT : T.1 ≤ 1000) (hp : p ≤ T.1) (q16 : k_ix T k_w2 p = 16) : ∃ O, y_G2 T 6 p O ∧ y_C2 T r c 6 p O ∧ y_M2 T 6 p O := by
  have k1 := (k_i2_is (show k_ix T k_w2 p < 18 by omega)).1
  refine ⟨.inl (k_fl T 5 p), y_fl hT hp (by omega) (by omega), ?_, ?_⟩
  · intro S I J P m z f hS hP b s h2 hz zp h4 hf
    obtain ⟨f, rfl⟩ : ∃ f', f = f' + 1 := ⟨f - 1, by omega⟩
    obtain ⟨X, Z, a1, a2, a3, a4⟩ := C_lawLoop (m := m) hS hP b s hp h2 (Nat.le_refl 6)
    exact ⟨X, Z, by rw [a4, if_neg (by omega), if_neg (show ¬ ¬ k_ix T k_w2 p = 16 from fun e => e q16), if_pos rfl], a1.cg⟩
  · intro S I J P m z f hS hP hT' kM h39 zp h4 hf
    obtain ⟨f, rfl⟩ : ∃ f', f = f' + 1 := ⟨f - 1, by omega⟩
    have om := fun I J => z_ob (I := I) (J := J) (P := P) (n := m) (s_83 hS)
    have r21 : q_gi (q_gf (z_h S I J P m) 12 83 21) = some (z_n 1) := by rw [z_gi (s_83 hS) rfl, kM.2.2.1, k1]
    have w1 : f_Mo_isWord 83 (8903 : Int64) (z_h S I J P m) = some (z_n 1, z_h S I J P m) := (M_wd2 hS kM (i := 16) (by omega)).trans (by rw [z_b_t q16])
    have g35 : ∀ X Z, q_gr (q_gf (z_h S X Z P m) 12 83 35) = some 104 := fun _ _ => z_gr (s_83 hS) rfl (p_83_35 hP)
    have r104 : q_gi (q_ga (z_h S I J P m) 20 104 (z_n 4)) = some (z_n 6) := by rw [z_gia (s_104 hS) (by omega) (z_rpl (by omega)), h4]
    have er := M_errs (n := m) hS hP kM 5
    refine ⟨_, J, ?_, (y_mf_24 _).lf 6, z_up_s _ _ _ _⟩
    rw [f_Mo_readsLaw_L14, r21, Option.bind_some, if_neg (show ¬ z_n 1 = (0 : Int32) by decide), om, Option.bind_some, w1, z_sq, if_neg (show ¬ z_n 1 = (0 : Int32) by decide), g35, Option.bind_some, show (4 : Int32) = z_n 4 from rfl, r104, Option.bind_some, if_pos (show z_n 6 = (6 : Int32) from rfl), om, Option.bind_some, show (5 : Int32) = z_n 5 from rfl, er, z_sq, if_neg (by decide)]
theorem y_lines_st (hT : T.1 ≤ 1000) (hp : p ≤ T.1) (n6 : n < 6) (q16 : k_ix T k_w2 p = 16) (ih : ∀ p, p ≤ T.1 → ∃ O, y_G2 T (n + 1) p O ∧ y_C2 T r c (n + 1) p O ∧ y_M2 T (n + 1) p O) : ∃ O, y_G2 T n p O ∧ y_C2 T r c n p O ∧ y_M2 T n p O := by
  have k1 := (k_i2_is (show k_ix T k_w2 p < 18 by omega)).1
  obtain ⟨O, g, hc, hm⟩ := y_line (r := r) (c := c) hT hp q16
  rcases O with F | ⟨p', cc, rc, w⟩
  · have g : 0 < F ∧ F < 20000 := g
    refine ⟨.inl F, g, ?_, ?_⟩
    · intro S I J P m z f hS hP b s h2 hz zp h4 hf
      obtain ⟨f, rfl⟩ : ∃ f', f = f' + 1 := ⟨f - 1, by omega⟩
      obtain ⟨X, Z, a1, a2, a3, a4⟩ := C_lawLoop (m := m) hS hP b s hp h2 (by omega : n ≤ 6)
      obtain ⟨Y, W, b1, b2⟩ := hc S X Z P m z hS hP b (b.st a1 s) a3 (by rw [a2 r b.r9.1]; exact hz) zp
      exact ⟨Y, W, by rw [a4, if_neg (by omega), if_neg (show ¬ ¬ k_ix T k_w2 p = 16 from fun e => e q16), if_neg (by omega), b1, z_sq, if_neg (y_n0 g.1 g.2)], (a1.trans b2).cg⟩
    · intro S I J P m z f hS hP hT' kM h39 zp h4 hf
      obtain ⟨f, rfl⟩ : ∃ f', f = f' + 1 := ⟨f - 1, by omega⟩
      obtain ⟨X, Z, a1, a2, a3⟩ := hm S I J P m z n hS hP hT' kM h39 zp h4 n6
      exact ⟨X, Z, a1 f, a2, a3⟩
  · obtain ⟨⟨g1, g2, g3, g4, g5⟩, g6, g7⟩ := g
    obtain ⟨O2, G, C2, M2⟩ := ih (k_e T p') g4
    have cls : ∀ (S : z_SH) (I : z_MI) (J : z_MJ) (P : z_MP) (m : Nat × Nat) (z f : Nat), z_St S → z_Pt P → y_cl S P r c T → y_st I J T → I 9 2 = z_n p → I r 3 = z_n z → z ≤ p → I r 4 = z_n n → ∃ X Z, f_Lr_parse_L9 r (f + 1) (z_n n) (z_h S I J P m) = f_Lr_parse_L9 r f (z_n (n + 1)) (z_h S X Z P m) ∧ y_cg r c I J X Z ∧ y_st X Z T ∧ X 9 2 = z_n (k_e T p') ∧ X r 4 = z_n (n + 1) ∧ y_em r c z (cc ++ [20000]) I X := by
      intro S I J P m z f hS hP b s h2 hz zp h4
      obtain ⟨X, Z, a1, a2, a3, a4⟩ := C_lawLoop (m := m) hS hP b s hp h2 (by omega : n ≤ 6)
      obtain ⟨Y, W, b1, b2, b3, b4⟩ := hc S X Z P m z hS hP b (b.st a1 s) a3 (by rw [a2 r b.r9.1]; exact hz) zp
      have w4 : ∀ v, q_sf (z_h S Y W P m) 11 r 4 (.int v) = some (z_h S (z_up Y r 4 v) W P m) := fun _ => z_sfi b.1 (by have := b.2.2.2.2.2.1; omega) rfl
      have s2 := b.st (a1.trans b2) s
      have r9 := b.r9
      have rr := b.2.2.2.2.2.1
      have rc' := b.2.2.2.2.2.2.2
      have cg := (a1.trans b2).cg
      refine ⟨z_up Y r 4 (z_n (n + 1)), W, ?_, ⟨fun a h1 h2 h3 => by rw [z_ups h2]; exact cg.1 a h1 h2 h3, cg.2.1, by rw [z_ups (by omega)]; exact cg.2.2⟩, ⟨⟨fun i hi => by rw [z_ups (by omega)]; exact s2.1.1 i hi, by rw [z_ups (by omega)]; exact s2.1.2⟩, by rw [z_ups (by omega), z_ups (by omega)]; exact s2.2.1, s2.2.2⟩, by rw [z_ups (by omega)]; exact b3.1, z_up_s _ _ _ _, by rw [z_up_i (by omega)]; exact b4.1, fun i hi => by rw [z_ups (Ne.symm rc'), b4.2.1 i hi, a2 c r9.2], fun i hi => by rw [z_ups (Ne.symm rc'), b4.2.2 i hi]⟩
      rw [a4, if_neg (by omega), if_neg (show ¬ ¬ k_ix T k_w2 p = 16 from fun e => e q16), if_neg (by omega), b1, z_sq, if_pos (show z_n 0 = (0 : Int32) from rfl), w4, Option.bind_some]
    have L1 : (cc ++ [20000]).length = cc.length + 1 := by rw [List.length_append, List.length_singleton]
    rcases O2 with F | L
    · refine ⟨.inl F, G, ?_, ?_⟩
      · intro S I J P m z f hS hP b s h2 hz zp h4 hf
        obtain ⟨f, rfl⟩ : ∃ f', f = f' + 1 := ⟨f - 1, by omega⟩
        obtain ⟨X, Z, a1, a2, a3, a4, a5, a6⟩ := cls S I J P m z f hS hP b s h2 hz zp h4
        obtain ⟨Y, W, b1, b2⟩ := C2 S X Z P m (z + (cc ++ [20000]).length) f hS hP b a3 a4 a6.1 (by omega) a5 (by omega)
        exact ⟨Y, W, by rw [a1, b1], a2.trans b2⟩
      · intro S I J P m z f hS hP hT' kM h39 zp h4 hf
        obtain ⟨f, rfl⟩ : ∃ f', f = f' + 1 := ⟨f - 1, by omega⟩
        obtain ⟨X, Z, a1, a2, a3, a4, a5, a6, a7⟩ := hm S I J P m z n hS hP hT' kM h39 zp h4 n6
        obtain ⟨Y, W, b1, b2, b3⟩ := M2 S X Z P m (z + rc.length) f hS hP (by rw [a2.2.1 18 (by unfold k_5; omega) (by omega), a2.1 99 (by omega) (by omega)]; exact hT') a3 (by rw [a4.1, Nat.add_assoc]) (by omega) a5 (by omega)
        exact ⟨Y, W, by rw [a1, b1], a2.trans b2 (by omega), b3⟩
    · obtain ⟨G1, G2, G3, G4⟩ := G
      have L2 : (y_fc ((cc, rc, w) :: L)).length = cc.length + 1 + (y_fc L).length := by
        show (cc ++ [20000] ++ y_fc L).length = _
        rw [List.length_append, L1]
      have L3 : (y_fm ((cc, rc, w) :: L)).length = rc.length + (y_fm L).length := by
        show (rc ++ y_fm L).length = _
        rw [List.length_append]
      refine ⟨.inr ((cc, rc, w) :: L), ⟨by show n + (L.length + 1) ≤ 6; omega, fun x hx => ?_, by omega, by omega⟩, ?_, ?_⟩
      · rcases List.mem_cons.mp hx with e | e
        · subst e; exact ⟨g6, g7⟩
        · exact G2 x e
      · intro S I J P m z f hS hP b s h2 hz zp h4 hf
        obtain ⟨f, rfl⟩ : ∃ f', f = f' + 1 := ⟨f - 1, by omega⟩
        obtain ⟨X, Z, a1, a2, a3, a4, a5, a6⟩ := cls S I J P m z f hS hP b s h2 hz zp h4
        obtain ⟨Y, W, b1, b2, b3, b4⟩ := C2 S X Z P m (z + (cc ++ [20000]).length) f hS hP b a3 a4 a6.1 (by omega) a5 (by omega)
        refine ⟨Y, W, by rw [a1, b1], a2.trans b2, ?_, a6.app b4⟩
        rw [b3, show n + 1 + L.length = n + ((cc, rc, w) :: L).length by show n + 1 + L.length = n + (L.length + 1); omega]
      · intro S I J P m z f hS hP hT' kM h39 zp h4 hf
        obtain ⟨f, rfl⟩ : ∃ f', f = f' + 1 := ⟨f - 1, by omega⟩
        obtain ⟨X, Z, a1, a2, a3, a4, a5, a6, a7⟩ := hm S I J P m z n hS hP hT' kM h39 zp h4 n6
        obtain ⟨Y, W, b1, b2, b3, b4, b5⟩ := M2 S X Z P m (z + rc.length) f hS hP (by rw [a2.2.1 18 (by unfold k_5; omega) (by omega), a2.1 99 (by omega) (by omega)]; exact hT') a3 (by rw [a4.1, Nat.add_assoc]) (by omega) a5 (by omega)
        obtain ⟨e1, e2⟩ := b2.2.2.2.2.2.2 (24 + n) (by omega)
        refine ⟨Y, W, by rw [a1, b1], a2.trans b2 (by omega), a4.app b3, ?_, ⟨⟨e1.trans a6, e2.trans a7⟩, b5⟩⟩
        rw [b4, show n + 1 + L.length = n + ((cc, rc, w) :: L).length by show n + 1 + L.length = n + (L.length + 1); omega]
theorem y_lines (hT : T.1 ≤ 1000) : ∀ (k n p : Nat), n + k = 6 → p ≤ T.1 → ∃ O, y_G2 T n p O ∧ y_C2 T r c n p O ∧ y_M2 T n p O := by
  intro k
  induction k with
  | zero =>
    intro n p hn hp
    have n6 : n = 6 := hn
    subst n6
    by_cases q0 : k_k T p = 0
    · exact y_lines_end hp (Nat.le_refl _) q0
    · by_cases q16 : k_ix T k_w2 p = 16
      · exact y_lines_e5 hT hp q16
      · exact y_lines_e1 hT hp (Nat.le_refl _) q0 q16
  | succ k ih =>
    intro n p hn hp
    by_cases q0 : k_k T p = 0
    · exact y_lines_end hp (by omega) q0
    · by_cases q16 : k_ix T k_w2 p = 16
      · exact y_lines_st hT hp (by omega) q16 (fun p hp => ih (n + 1) p (by omega) hp)
      · exact y_lines_e1 hT hp (by omega) q0 q16
end
