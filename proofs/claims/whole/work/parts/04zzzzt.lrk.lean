/-! LAW: the reference keeps what it read. -/
def k_l4 (Y : z_MI) (k j : Nat) (X : z_MI) : Prop := ∀ a i, X a i = if (a = 105 ∨ a = 106) ∧ 6 * k ≤ i ∧ i < 6 * k + j then Y a (24 + (i - 6 * k)) - z_n 4000 + z_n (1000 * k) else Y a i
def k_l8 (Y : z_MI) (k j : Nat) (X : z_MI) : Prop := ∀ a i, X a i = if a = 107 ∧ 1000 * k ≤ i ∧ i < 1000 * k + j then Y 107 (4000 + (i - 1000 * k)) else Y a i
/-- what the reference's call of LAW leaves as it was -/
def k_lf (k : Nat) (I : z_MI) (J : z_MJ) (X : z_MI) (Z : z_MJ) : Prop := (∀ a, a ≠ 83 → (a < 104 ∨ 109 < a) → X a = I a) ∧ X 83 16 = z_n 0 ∧ X 83 32 = I 83 32 ∧ (∀ a, a ≠ 83 → Z a = J a) ∧ (∀ i, i < 4 → i ≠ k → X 104 i = I 104 i) ∧ (∀ i, i < 24 → ¬ (6 * k ≤ i ∧ i < 6 * k + 6) → X 105 i = I 105 i ∧ X 106 i = I 106 i) ∧ ∀ i, i < 4000 → ¬ (1000 * k ≤ i ∧ i < 1000 * k + 1000) → X 107 i = I 107 i
section
variable {S : z_SH} {I Y : z_MI} {J : z_MJ} {P : z_MP} {n : Nat × Nat} {T : k_T} {k : Nat}
set_option maxRecDepth 100000 in
set_option maxHeartbeats 4000000 in
theorem M_l4 (hS : z_St S) (hP : z_Pt P) (hk : k < 4) : ∃ X, f_Mo_law_L44 83 (z_n k) q_FU (0 : Int32) (z_h S Y J P n) = some ((), z_h S X J P n) ∧ k_l4 Y k 6 X := by
  exact z_runI (fun m j (x : z_MI) => f_Mo_law_L44 83 (z_n k) m (z_n j) (z_h S x J P n)) 6
    (fun j x => k_l4 Y k j x)
    (fun r => ∃ X, r = some ((), z_h S X J P n) ∧ k_l4 Y k 6 X) (by omega)
    (by
      intro m j X hj q
      refine ⟨z_up (z_up X 105 (6 * k + j) (Y 105 (24 + j) - z_n 4000 + z_n (1000 * k))) 106 (6 * k + j) (Y 106 (24 + j) - z_n 4000 + z_n (1000 * k)), fun a i => ?_, ?_⟩
      · by_cases e6 : a = 106 ∧ i = 6 * k + j
        · obtain ⟨rfl, rfl⟩ := e6
          rw [z_up_s, if_pos (by omega), show 6 * k + j - 6 * k = j by omega]
        · rw [z_up_o e6]
          by_cases e5 : a = 105 ∧ i = 6 * k + j
          · obtain ⟨rfl, rfl⟩ := e5
            rw [z_up_s, if_pos (by omega), show 6 * k + j - 6 * k = j by omega]
          · rw [z_up_o e5, q a i]
            by_cases e : (a = 105 ∨ a = 106) ∧ 6 * k ≤ i ∧ i < 6 * k + j
            · rw [if_pos e, if_pos (by omega)]
            · rw [if_neg e, if_neg (by omega)]
      · have x5 : X 105 (24 + j) = Y 105 (24 + j) := by rw [q, if_neg (by omega)]
        have x6 : ∀ v, z_up X 105 (6 * k + j) v 106 (24 + j) = Y 106 (24 + j) := fun v => by rw [z_ups (by omega), q, if_neg (by omega)]
        have g36 : ∀ X, q_gr (q_gf (z_h S X J P n) 12 83 36) = some 105 := fun _ => z_gr (s_83 hS) rfl (p_83_36 hP)
        have g37 : ∀ X, q_gr (q_gf (z_h S X J P n) 12 83 37) = some 106 := fun _ => z_gr (s_83 hS) rfl (p_83_37 hP)
        have r5 : q_gi (q_ga (z_h S X J P n) 20 105 (z_n (24 + j))) = some (Y 105 (24 + j)) := by rw [z_gia (s_105 hS) (by omega) (z_rpl (by omega)), x5]
        have r6 : ∀ v, q_gi (q_ga (z_h S (z_up X 105 (6 * k + j) v) J P n) 20 106 (z_n (24 + j))) = some (Y 106 (24 + j)) := fun v => by rw [z_gia (s_106 hS) (by omega) (z_rpl (by omega)), x6]
        have w5 : ∀ v, q_sa (z_h S X J P n) 20 105 (z_n (6 * k + j)) (.int v) = some (z_h S (z_up X 105 (6 * k + j) v) J P n) := fun _ => z_sai (s_105 hS) (by decide) (by omega) (z_rpl (by omega))
        have w6 : ∀ X v, q_sa (z_h S X J P n) 20 106 (z_n (6 * k + j)) (.int v) = some (z_h S (z_up X 106 (6 * k + j) v) J P n) := fun _ _ => z_sai (s_106 hS) (by decide) (by omega) (z_rpl (by omega))
        rw [f_Mo_law_L44, show (6 : Int32) = z_n 6 from rfl, if_pos (by rw [z_lt (by omega) (by omega)]; exact hj), g36, Option.bind_some, Option.bind_some, show (24 : Int32) = z_n 24 from rfl, z_n_add, r5, Option.bind_some, z_n_mul, z_n_add, show (1000 : Int32) = z_n 1000 from rfl, z_n_mul, show (4000 : Int32) = z_n 4000 from rfl, w5, Option.bind_some, g37, Option.bind_some, Option.bind_some, r6, Option.bind_some, w6, Option.bind_some, show (1 : Int32) = z_n 1 from rfl, z_n_add])
    (by
      intro m X q
      refine ⟨X, ?_, q⟩
      rw [f_Mo_law_L44, show (6 : Int32) = z_n 6 from rfl, if_neg (by rw [z_lt (by omega) (by omega)]; omega)])
    (x := Y) (fun a i => by rw [if_neg (by omega)])
set_option maxRecDepth 100000 in
set_option maxHeartbeats 4000000 in
theorem M_l8 (hS : z_St S) (hP : z_Pt P) (hk : k < 4) : ∃ X, f_Mo_law_L118 83 (z_n k) q_FU (0 : Int32) (z_h S Y J P n) = some ((), z_h S X J P n) ∧ k_l8 Y k 1000 X := by
  exact z_runI (fun m j (x : z_MI) => f_Mo_law_L118 83 (z_n k) m (z_n j) (z_h S x J P n)) 1000
    (fun j x => k_l8 Y k j x)
    (fun r => ∃ X, r = some ((), z_h S X J P n) ∧ k_l8 Y k 1000 X) (by omega)
    (by
      intro m j X hj q
      refine ⟨z_up X 107 (1000 * k + j) (Y 107 (4000 + j)), fun a i => ?_, ?_⟩
      · by_cases e5 : a = 107 ∧ i = 1000 * k + j
        · obtain ⟨rfl, rfl⟩ := e5
          rw [z_up_s, if_pos (by omega), show 1000 * k + j - 1000 * k = j by omega]
        · rw [z_up_o e5, q a i]
          by_cases e : a = 107 ∧ 1000 * k ≤ i ∧ i < 1000 * k + j
          · rw [if_pos e, if_pos (by omega)]
          · rw [if_neg e, if_neg (by omega)]
      · have g38 : ∀ X, q_gr (q_gf (z_h S X J P n) 12 83 38) = some 107 := fun _ => z_gr (s_83 hS) rfl (p_83_38 hP)
        have r7 : q_gi (q_ga (z_h S X J P n) 20 107 (z_n (4000 + j))) = some (Y 107 (4000 + j)) := by rw [z_gia (s_107 hS) (by omega) (z_rpl (by omega)), q, if_neg (by omega)]
        have w7 : ∀ v, q_sa (z_h S X J P n) 20 107 (z_n (1000 * k + j)) (.int v) = some (z_h S (z_up X 107 (1000 * k + j) v) J P n) := fun _ => z_sai (s_107 hS) (by decide) (by omega) (z_rpl (by omega))
        rw [f_Mo_law_L118, show (1000 : Int32) = z_n 1000 from rfl, if_pos (by rw [z_lt (by omega) (by omega)]; exact hj), g38, Option.bind_some, Option.bind_some, show (4000 : Int32) = z_n 4000 from rfl, z_n_add, r7, Option.bind_some, z_n_mul, z_n_add, w7, Option.bind_some, show (1 : Int32) = z_n 1 from rfl, z_n_add])
    (by
      intro m X q
      refine ⟨X, ?_, q⟩
      rw [f_Mo_law_L118, show (1000 : Int32) = z_n 1000 from rfl, if_neg (by rw [z_lt (by omega) (by omega)]; omega)])
    (x := Y) (fun a i => by rw [if_neg (by omega)])
end
def k_mM (L : y_LL) : List (List Nat × (l_V → Int32)) := L.map fun x => (x.2.1, x.2.2)
def k_mC (L : y_LL) : List (List Nat × (l_V → Int32)) := L.map fun x => (x.1, x.2.2)
theorem k_lw_MC : ∀ L, k_lw (k_mM L) = k_lw (k_mC L)
  | [] => rfl
  | x :: r => by
    funext v
    show (!decide (x.2.2 v = z_n 0) || k_lw (k_mM r) v) = (!decide (x.2.2 v = z_n 0) || k_lw (k_mC r) v)
    rw [k_lw_MC r]
theorem k_fcc_C : ∀ L, k_fcc (k_mC L) = y_fc L
  | [] => rfl
  | x :: r => by
    show x.1 ++ (20000 :: k_fcc (k_mC r)) = x.1 ++ [20000] ++ y_fc r
    rw [k_fcc_C r, List.append_assoc]; rfl
theorem k_sub4 (b k : Nat) : z_n (4000 + b) - z_n 4000 + z_n (1000 * k) = z_n (1000 * k + b) := by
  rw [z_n_sub (by omega), z_n_add, show 4000 + b - 4000 + 1000 * k = 1000 * k + b by omega]
theorem y_lns_of {k : Nat} {A B fr to co : Nat → Int32} (hf : ∀ j, j < 6 → fr j = A j - z_n 4000 + z_n (1000 * k) ∧ to j = B j - z_n 4000 + z_n (1000 * k)) : ∀ (L : y_LL) (j b : Nat), y_lz A B L j b → j + L.length ≤ 6 → b + (y_fm L).length ≤ 1000 → (∀ i, i < (y_fm L).length → co (b + i) = z_n ((y_fm L).getD i 0)) → y_lns k fr to co (k_mM L) j b
  | [], _, _, _, _, _, _ => trivial
  | x :: r, j, b, ⟨⟨h1, h2⟩, h3⟩, hj, hb, hc => by
    have e : y_fm (x :: r) = x.2.1 ++ y_fm r := rfl
    have ll : (x :: r).length = r.length + 1 := rfl
    rw [e, List.length_append] at hb
    have hc : ∀ i, i < x.2.1.length + (y_fm r).length → co (b + i) = z_n ((x.2.1 ++ y_fm r).getD i 0) := fun i hi => hc i (by rw [e, List.length_append]; exact hi)
    obtain ⟨f1, f2⟩ := hf j (by omega)
    refine ⟨⟨by rw [f1, h1, k_sub4], ?_, by show b + x.2.1.length ≤ 1000; omega, fun i hi => ?_⟩, ?_⟩
    · show to j = z_n (1000 * k + b + x.2.1.length)
      rw [f2, h2, Nat.add_assoc, k_sub4, Nat.add_assoc]
    · have hi : i < x.2.1.length := hi
      rw [hc i (by omega), l_gd_l hi]
    · refine y_lns_of hf r (j + 1) (b + x.2.1.length) h3 (by omega) (by omega) (fun i hi => ?_)
      rw [Nat.add_assoc, hc _ (by omega), l_gd_r (by omega), Nat.add_sub_cancel_left]
section
variable {S : z_SH} {I Y : z_MI} {J : z_MJ} {P : z_MP} {n : Nat × Nat} {T : k_T} {k : Nat}
set_option maxRecDepth 100000 in
set_option maxHeartbeats 4000000 in
theorem M_law (hS : z_St S) (hP : z_Pt P) (hk : k < 4) (hT : k_hd (I 83 16) (I 99) T) {O : y_O2} (G : y_G2 T 0 0 O) (M : y_M2 T 0 0 O) : match O with
  | .inl F => ∃ X Z, f_Mo_law 83 (z_n k) (z_h S I J P n) = some (z_n F, z_h S X Z P n) ∧ k_lf 9 I J X Z
  | .inr L => ∃ X Z, f_Mo_law 83 (z_n k) (z_h S I J P n) = some (z_n 0, z_h S X Z P n) ∧ k_lf k I J X Z ∧ X 104 k = z_n L.length ∧ l_M k L.length (fun j => X 105 (6 * k + j)) (fun j => X 106 (6 * k + j)) (fun i => X 107 (1000 * k + i)) (k_lw (k_mM L)) := by
  obtain ⟨X, Z, b1, b2, b3, b4, b5, b6, b7⟩ := M_starts (I := z_up I 83 0 (z_n 0)) (J := J) (n := n) hS hP (T := T) (by rw [z_up_i (by decide), z_ups (by decide)]; exact hT)
  have om := fun I J => z_ob (I := I) (J := J) (P := P) (n := n) (s_83 hS)
  have g35 : ∀ X Z, q_gr (q_gf (z_h S X Z P n) 12 83 35) = some 104 := fun _ _ => z_gr (s_83 hS) rfl (p_83_35 hP)
  have w104 : ∀ X Z i v, i < 5 → q_sa (z_h S X Z P n) 20 104 (z_n i) (.int v) = some (z_h S (z_up X 104 i v) Z P n) := fun _ _ _ _ hi => z_sai (s_104 hS) (by decide) (by omega) (z_rpl hi)
  have w39 : ∀ X Z v, q_sf (z_h S X Z P n) 12 83 39 (.int v) = some (z_h S (z_up X 83 39 v) Z P n) := fun _ _ _ => z_sfi (s_83 hS) (by decide) rfl
  have r104 : ∀ X Z, q_gi (q_ga (z_h S X Z P n) 20 104 (z_n 4)) = some (X 104 4) := fun _ _ => z_gia (s_104 hS) (by omega) (z_rpl (by omega))
  have r24 : ∀ X Z, q_gi (q_gf (z_h S X Z P n) 12 83 24) = some (X 83 24) := fun _ _ => z_gi (s_83 hS) rfl
  have hX3 : ∀ a, a ≠ 83 → a ≠ 104 → z_up (z_up X 104 4 (z_n 0)) 83 39 (z_n 4000) a = I a := fun a h1 h2 => by rw [z_ups h1, z_ups h2, b2 a h1, z_ups h1]
  have h104 : ∀ i, i ≠ 4 → z_up (z_up X 104 4 (z_n 0)) 83 39 (z_n 4000) 104 i = I 104 i := fun i hi => by rw [z_ups (by omega), z_up_i hi, b2 104 (by omega), z_ups (by omega)]
  have h83 : ∀ i, i ≠ 39 → z_up (z_up X 104 4 (z_n 0)) 83 39 (z_n 4000) 83 i = X 83 i := fun i hi => by rw [z_up_i hi, z_ups (by omega)]
  have m := M S (z_up (z_up X 104 4 (z_n 0)) 83 39 (z_n 4000)) Z P n 0 q_FU hS hP (by rw [h83 18 (by omega), hX3 99 (by omega) (by omega)]; rw [b2 99 (by omega), z_ups (by omega)] at b6; exact b6) (by
    unfold k_M at b7 ⊢
    rw [h83 19 (by omega), h83 20 (by omega), h83 21 (by omega), h83 23 (by omega)]; exact b7) (z_up_s _ _ _ _) (by omega) (by rw [z_ups (by omega), z_up_s]) (by rw [z_FU]; omega)
  have pre : ∀ R : Option ((Int32 ⊕ Unit) × q_H), f_Mo_readsLaw_L14 83 q_FU (z_h S (z_up (z_up X 104 4 (z_n 0)) 83 39 (z_n 4000)) Z P n) = R → f_Mo_law 83 (z_n k) (z_h S I J P n) = q_sq (q_sq R fun (t0 : Int32 ⊕ Unit) σ5 => match t0 with | .inl r6 => some (r6, σ5) | .inr t4 => (some ((1 : Int32), σ5))) fun x10 σ9 => if x10 = (0 : Int32) then ((q_gi (q_gf σ9 12 83 24)).bind fun x12 => some (x12, σ9)) else ((q_gr (q_gf σ9 12 83 35)).bind fun x13 => (q_gr (q_gf σ9 12 83 35)).bind fun x14 => (q_gi (q_ga σ9 20 x14 (4 : Int32))).bind fun x15 => (q_sa σ9 20 x13 (z_n k) (.int x15)).bind fun σ16 => q_sq (f_Mo_law_L44 83 (z_n k) q_FU (0 : Int32) σ16) fun (t17 : Unit) σ18 => q_sq (f_Mo_law_L118 83 (z_n k) q_FU (0 : Int32) σ18) fun (t19 : Unit) σ20 => some ((0 : Int32), σ20)) := by
    intro R hR
    unfold f_Mo_law f_Mo_readsLaw
    rw [show (0 : Int32) = z_n 0 from rfl, M_thr hS, Option.bind_some, om, Option.bind_some, b1, z_sq, M_isTable (by omega), z_sq, if_neg (show ¬ z_n 1 = z_n 0 by decide), om, Option.bind_some, g35, Option.bind_some, show (4 : Int32) = z_n 4 from rfl, w104 _ _ _ _ (by omega), Option.bind_some, show (4000 : Int32) = z_n 4000 from rfl, w39, Option.bind_some, hR]
    rfl
  generalize z_up (z_up X 104 4 (z_n 0)) 83 39 (z_n 4000) = X3 at *
  rcases O with F | L
  · obtain ⟨X4, Z4, e1, e2, e3⟩ := m
    obtain ⟨l1, l2, l3, l4, l5, l6, l7⟩ := e2
    refine ⟨X4, Z4, ?_, fun a h1 h2 => (l1 a h1 h2).trans (hX3 a h1 (by omega)), ?_, ?_, fun a h1 => (l3 a h1).trans (b3 a h1), fun i hi _ => (l6 i (by omega)).trans (h104 i (by omega)), fun i hi _ => ⟨(l7 i (by omega)).1.trans (by rw [hX3 105 (by omega) (by omega)]), (l7 i (by omega)).2.trans (by rw [hX3 106 (by omega) (by omega)])⟩, fun i hi _ => (l5 i hi).trans (by rw [hX3 107 (by omega) (by omega)])⟩
    · rw [pre _ e1, z_sq, z_sq, if_pos (show z_n 0 = (0 : Int32) from rfl), r24, Option.bind_some, e3]
    · rw [l2 16 (by unfold k_5; omega) (by omega), h83 16 (by omega)]; exact b4
    · rw [l2 32 (by unfold k_5; omega) (by omega), h83 32 (by omega), b5, z_up_i (by decide)]
  · obtain ⟨X4, Z4, e1, e2, e3, e4, e5⟩ := m
    obtain ⟨l1, l2, l3, l4, l5, l6, l7⟩ := e2
    obtain ⟨g1, g2, g3, g4⟩ := G
    have T1 := hT.1
    rw [Nat.zero_add] at e4 g1 g4
    obtain ⟨X6, c1, c2⟩ := M_l4 (Y := z_up X4 104 k (z_n L.length)) (J := Z4) (n := n) hS hP hk
    obtain ⟨X7, d1, d2⟩ := M_l8 (Y := X6) (J := Z4) (n := n) hS hP hk
    have x7 : ∀ a i, a ≠ 105 → a ≠ 106 → a ≠ 107 → X7 a i = z_up X4 104 k (z_n L.length) a i := fun a i h1 h2 h3 => by rw [d2, if_neg (by omega), c2, if_neg (by omega)]
    have x56 : ∀ a i, (a = 105 ∨ a = 106) → X7 a i = if 6 * k ≤ i ∧ i < 6 * k + 6 then X4 a (24 + (i - 6 * k)) - z_n 4000 + z_n (1000 * k) else X4 a i := fun a i h => by
      rw [d2, if_neg (by omega), c2, z_ups (by omega)]
      by_cases e : 6 * k ≤ i ∧ i < 6 * k + 6
      · rw [if_pos ⟨h, e⟩, if_pos e]
      · rw [if_neg (fun q => e q.2), if_neg e]
    have x77 : ∀ i, X7 107 i = if 1000 * k ≤ i ∧ i < 1000 * k + 1000 then X4 107 (4000 + (i - 1000 * k)) else X4 107 i := fun i => by
      have s : ∀ i, X6 107 i = X4 107 i := fun i => by rw [c2, if_neg (by omega), z_ups (by omega)]
      rw [d2, s, s]
      by_cases e : 1000 * k ≤ i ∧ i < 1000 * k + 1000
      · rw [if_pos ⟨rfl, e⟩, if_pos e]
      · rw [if_neg (fun q => e q.2), if_neg e]
    refine ⟨X7, Z4, ?_, ⟨fun a h1 h2 => ?_, ?_, ?_, fun a h1 => (l3 a h1).trans (b3 a h1), fun i hi ne => ?_, fun i hi ne => ⟨?_, ?_⟩, fun i hi ne => ?_⟩, ?_, ?_⟩
    · rw [pre _ e1, z_sq, z_sq, if_neg (show ¬ (1 : Int32) = 0 by decide), g35, Option.bind_some, Option.bind_some, show (4 : Int32) = z_n 4 from rfl, r104, Option.bind_some, e4, w104 _ _ _ _ (by omega), Option.bind_some, c1, z_sq, d1, z_sq]
      rfl
    · funext i
      rw [x7 a i (by omega) (by omega) (by omega), z_ups (by omega), l1 a h1 h2, hX3 a h1 (by omega)]
    · rw [x7 83 16 (by omega) (by omega) (by omega), z_ups (by omega), l2 16 (by unfold k_5; omega) (by omega), h83 16 (by omega)]; exact b4
    · rw [x7 83 32 (by omega) (by omega) (by omega), z_ups (by omega), l2 32 (by unfold k_5; omega) (by omega), h83 32 (by omega), b5, z_up_i (by decide)]
    · rw [x7 104 i (by omega) (by omega) (by omega), z_up_i ne, l6 i (by omega), h104 i (by omega)]
    · rw [x56 105 i (Or.inl rfl), if_neg ne, (l7 i (by omega)).1, hX3 105 (by omega) (by omega)]
    · rw [x56 106 i (Or.inr rfl), if_neg ne, (l7 i (by omega)).2, hX3 106 (by omega) (by omega)]
    · rw [x77, if_neg ne, l5 i hi, hX3 107 (by omega) (by omega)]
    · rw [x7 104 k (by omega) (by omega) (by omega), z_up_s]
    · refine l_M_of hk g1 (fun x hx => ?_) (y_lns_of (A := fun j => X4 105 (24 + j)) (B := fun j => X4 106 (24 + j)) (fun j hj => ⟨?_, ?_⟩) L 0 0 e5 (by omega) (by omega) (fun i hi => ?_)) (by unfold k_mM; rw [List.length_map])
      · obtain ⟨y, hy, rfl⟩ := List.mem_map.mp hx
        exact (g2 y hy).2
      · show X7 105 (6 * k + j) = X4 105 (24 + j) - z_n 4000 + z_n (1000 * k)
        rw [x56 105 _ (Or.inl rfl), if_pos (by omega), show 6 * k + j - 6 * k = j by omega]
      · show X7 106 (6 * k + j) = X4 106 (24 + j) - z_n 4000 + z_n (1000 * k)
        rw [x56 106 _ (Or.inr rfl), if_pos (by omega), show 6 * k + j - 6 * k = j by omega]
      · show X7 107 (1000 * k + (0 + i)) = _
        rw [x77, if_pos (by omega), show 1000 * k + (0 + i) - 1000 * k = i by omega]
        have := e3.2.2 i hi
        rw [Nat.add_zero] at this
        exact this
end
