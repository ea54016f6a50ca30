/-! LAW: what both parsers are held to; the class's small steps. -/
abbrev y_O : Type := Nat ⊕ (Nat × List Nat × List Nat × (l_V → Int32) × Nat)
def y_stop (T : k_T) (l p cm : Nat) : Prop := (1 ≤ l → k_is T p 42 = false) ∧ (2 ≤ l → k_is T p 43 = false ∧ k_is T p 45 = false) ∧ (3 ≤ l → cm ≤ 1 ∧ (cm = 0 → k_is T p 60 = false ∧ k_is T p 61 = false)) ∧ (4 ≤ l → ¬ k_ix T k_w2 p = 13 ∧ ¬ k_ix T k_w2 p = 14)
def y_er (l m : Nat) (rc : List Nat) (w : l_V → Int32) : Prop := match l with
  | 0 => y_e0 m rc w
  | l + 1 => y_e (l + 1) m rc w
def y_G (T : k_T) (l d p : Nat) (O : y_O) : Prop := match O with
  | .inl F => 0 < F ∧ F < 20000
  | .inr (p', cc, rc, w, cm) => (p < p' ∧ p' ≤ T.1 ∧ cc.length ≤ p' - p ∧ rc.length ≤ p' - p) ∧ (d ≤ 4 ∧ k_ec (17 - 4 * d + l) cc w) ∧ y_er l (4 - d) rc w ∧ y_stop T l p' cm
def y_C (T : k_T) (r c : Nat) (fn : q_H → Option (Int32 × q_H)) (p : Nat) (O : y_O) : Prop := ∀ (S : z_SH) (I : z_MI) (J : z_MJ) (P : z_MP) (n : Nat × Nat) (z : Nat), z_St S → z_Pt P → y_cl S P r c T → y_st I J T → k_C T p I J → I r 3 = z_n z → z ≤ p → match O with
  | .inl F => ∃ X Z, fn (z_h S I J P n) = some (z_n F, z_h S X Z P n) ∧ y_cf r c I J X Z ∧ ∃ z', z' ≤ T.1 ∧ X r 3 = z_n z'
  | .inr (p', cc, _) => ∃ X Z, fn (z_h S I J P n) = some (z_n 0, z_h S X Z P n) ∧ y_cf r c I J X Z ∧ k_C T p' X Z ∧ y_em r c z cc I X
def y_R0 (T : k_T) (d p : Nat) (O : y_O) : Prop := ∀ (S : z_SH) (I : z_MI) (J : z_MJ) (P : z_MP) (n : Nat × Nat) (z m : Nat), z_St S → z_Pt P → k_hd (I 83 18) (I 99) T → k_M T p I J → I 83 39 = z_n (4000 + z) → z ≤ p → T.1 < m + p → match O with
  | .inl F => ∃ X Z, f_Mo_reads_L11 83 m (z_n d) (z_n 1) (z_h S I J P n) = some (z_n 0, z_h S X Z P n) ∧ y_mf I J X Z ∧ X 83 24 = z_n F
  | .inr (p', _, rc, _) => ∃ X Z m', f_Mo_reads_L11 83 m (z_n d) (z_n 1) (z_h S I J P n) = f_Mo_reads_L11 83 m' (z_n (y_pp (I 108) d)) (z_n 0) (z_h S X Z P n) ∧ T.1 < m' + p' ∧ y_mf I J X Z ∧ k_M T p' X Z ∧ y_me z rc I X ∧ ∀ j, j ≤ d → X 108 j = I 108 j ∧ X 109 j = I 109 j
def y_R (T : k_T) (l wants c0 d p : Nat) (O : y_O) : Prop := ∀ (S : z_SH) (I : z_MI) (J : z_MJ) (P : z_MP) (n : Nat × Nat) (z m : Nat), z_St S → z_Pt P → k_hd (I 83 18) (I 99) T → k_M T p I J → I 83 39 = z_n (4000 + z) → z ≤ p → T.1 < m + p → (d = 0 ∨ ¬ I 108 d = z_n 1) → (3 ≤ l → I 109 d = z_n c0) → match O with
  | .inl F => ∃ X Z, f_Mo_reads_L11 83 m (z_n d) (z_n wants) (z_h S I J P n) = some (z_n 0, z_h S X Z P n) ∧ y_mf I J X Z ∧ X 83 24 = z_n F
  | .inr (p', _, rc, _, cm) => ∃ X Z m', f_Mo_reads_L11 83 m (z_n d) (z_n wants) (z_h S I J P n) = f_Mo_reads_L11 83 m' (z_n d) (z_n 0) (z_h S X Z P n) ∧ T.1 < m' + p' ∧ y_mf I J X Z ∧ k_M T p' X Z ∧ y_me z rc I X ∧ (∀ j, j < d → X 108 j = I 108 j ∧ X 109 j = I 109 j) ∧ X 108 d = I 108 d ∧ X 109 d = (if 3 ≤ l then z_n cm else I 109 d)
/-- the class's methods by level -/
def y_fn (r k d : Nat) (l : Nat) : q_H → Option (Int32 × q_H) := match l with
  | 0 => f_Lr_parsePart k r (z_n d)
  | 1 => f_Lr_parseProduct (f_Lr_parsePart k) r (z_n d)
  | 2 => f_Lr_parseSum (f_Lr_parsePart k) r (z_n d)
  | 3 => f_Lr_parseTest (f_Lr_parsePart k) r (z_n d)
  | _ => f_Lr_parseWhole (f_Lr_parsePart k) r (z_n d)
def y_RR (T : k_T) (l d p : Nat) (O : y_O) : Prop := match l with
  | 0 => y_R0 T d p O
  | l + 1 => y_R T (l + 1) 1 0 d p O
def y_Q (T : k_T) (r c l d p : Nat) : Prop := ∃ O, y_G T l d p O ∧ (∀ k, 6 ≤ k + d → y_C T r c (y_fn r k d l) p O) ∧ y_RR T l d p O
section
variable {S : z_SH} {I : z_MI} {J : z_MJ} {P : z_MP} {n : Nat × Nat} {T : k_T} {p r c d z : Nat}
theorem C_next (hS : z_St S) (hP : z_Pt P) (b : y_cl S P r c T) (s : y_st I J T) (hp : p ≤ T.1) (k : k_C T p I J) : ∃ X Z, f_Ta_advance 9 (z_h S I J P n) = some ((), z_h S X Z P n) ∧ y_cf r c I J X Z ∧ (∀ a, a ≠ 9 → X a = I a) ∧ k_C T (k_e T p) X Z := by
  obtain ⟨b1, b2, b3, b4, b5, b6, b7, b8⟩ := b
  obtain ⟨X, Z, a1, a2, a3, a4, a5⟩ := C_adv (n := n) hS hP s.1 s.2.1 (k_e_le hp).2 k.1
  exact ⟨X, Z, a1, ⟨fun a h1 _ _ => a2 a h1, a4, a3, fun i _ => by rw [a2 r (by omega)]⟩, a2, a5⟩
theorem C_word (hS : z_St S) (hP : z_Pt P) (s : y_st I J T) (k : k_C T p I J) : f_Ta_wordIn 9 12 (z_h S I J P n) = some ((if k_ix T k_w2 p < 18 then z_n (k_ix T k_w2 p) else -z_n 1), z_h S I J P n) := C_wordIn (w := k_w2) hS hP (s_12 hS) (by decide) s.2.2 k
theorem y_z32 {v : Nat} (h : v ≤ 9999) : (z_z (v : Nat)).toInt32 = z_n v := by
  rw [← z_z32 (by omega), Int32.toInt32_toInt64]
theorem y_fl (hT : T.1 ≤ 1000) (hp : p ≤ T.1) {k : Nat} (h1 : 1 ≤ k) (h2 : k ≤ 6) : 0 < k_fl T k p ∧ k_fl T k p < 20000 := k_fl_ok hT hp h1 h2

set_option maxRecDepth 100000 in
set_option maxHeartbeats 4000000 in
theorem C_part (hS : z_St S) (hP : z_Pt P) (b : y_cl S P r c T) (s : y_st I J T) (hp : p ≤ T.1) (k : k_C T p I J) (Q : q_PF) (hd : d ≤ 5) : f_Lr_bPart Q r (z_n d) (z_h S I J P n) =
    if ¬ (k_ix T k_w2 p < 13 ∨ k_ix T k_w2 p = 15 ∨ k_is T p 40 = true ∨ k_k T p = 2) then some (z_n (k_fl T 1 p), z_h S I J P n)
    else if d = 5 then some (z_n (k_fl T 5 p), z_h S I J P n)
    else if k_is T p 40 = true then f_Lr_parseInner Q r (z_n (d + 1)) (z_h S I J P n)
    else if k_ix T k_w2 p = 15 then q_sq (f_Ta_advance 9 (z_h S I J P n)) fun (_ : Unit) σ59 => (q_ob σ59 11 r).bind fun _ => q_sq (Q r (z_n (d + 1)) σ59) fun x63 σ62 => (q_ob σ62 11 r).bind fun _ => q_sq (f_Lr_emit r (z_n 20001) σ62) fun (_ : Unit) σ65 => some (x63, σ65)
    else q_sq (f_Lr_emit r (if k_ix T k_w2 p < 13 then z_n (10000 + k_ix T k_w2 p) else (k_vl T p).toInt32) (z_h S I J P n)) fun (_ : Unit) σ73 => (q_gr (q_gf σ73 11 r 0)).bind fun x75 => (q_ob σ73 1 x75).bind fun _ => q_sq (f_Ta_advance x75 σ73) fun (_ : Unit) σ77 => some (z_n 0, σ77) := by
  obtain ⟨b1, b2, b3, b4, b5, b6, b7, b8⟩ := b
  have g0 : q_gr (q_gf (z_h S I J P n) 11 r 0) = some 9 := z_gr b1 rfl b2
  have g1 : q_gr (q_gf (z_h S I J P n) 11 r 1) = some 12 := z_gr b1 rfl b3
  have o9 := z_ob (I := I) (J := J) (P := P) (n := n) (s_9 hS)
  have oR := z_ob (I := I) (J := J) (P := P) (n := n) b1
  have wd := C_word (n := n) hS hP s k
  have sg := C_isSign (P := P) (n := n) hS hp s.2.1 k (c := 40) (by omega)
  have f1 := C_fault (J := J) (P := P) (n := n) hS k.2.2.1 1
  have f5 := C_fault (J := J) (P := P) (n := n) hS k.2.2.1 5
  have r3 : q_gi (q_gf (z_h S I J P n) 1 9 3) = some (z_n (k_k T p)) := by rw [z_gi (s_9 hS) rfl, k.2.1]
  have r5 : q_gl' (q_gf (z_h S I J P n) 1 9 5) = some (k_vl T p) := by rw [z_gl (s_9 hS) rfl, k.2.2.2]
  have i18 := @k_i2_le T p
  have k4 := @k_k4 T p
  have n10 : ¬ z_n 1 = (0 : Int32) := by decide
  have z00 : z_n 0 = (0 : Int32) := rfl
  have d1 : z_n d + (1 : Int32) = z_n (d + 1) := z_n_add d 1
  have isf : f_Rs_isFrom (z_n 0) (if k_ix T k_w2 p < 18 then z_n (k_ix T k_w2 p) else -z_n 1) (z_n 12) (z_h S I J P n) = some (z_b (k_ix T k_w2 p < 13), z_h S I J P n) := by
    rw [C_isFrom]
    by_cases q : k_ix T k_w2 p < 13
    · rw [if_pos (by omega), z_b_t q, z_b_t ⟨by rw [z_lt (by omega) (by omega)]; omega, by rw [z_lt (by omega) (by omega)]; omega⟩]
    · rw [z_b_f q]
      by_cases q2 : k_ix T k_w2 p < 18
      · rw [if_pos q2, z_b_f (fun e => e.2 (by rw [z_lt (by omega) (by omega)]; omega))]
      · rw [if_neg q2, z_b_f (fun e => e.1 (by decide))]
  unfold f_Lr_bPart
  rw [g0, Option.bind_some, g1, Option.bind_some, o9, Option.bind_some, wd, z_sq, show (0 : Int32) = z_n 0 from rfl, show (12 : Int32) = z_n 12 from rfl, isf, z_sq, g0, Option.bind_some, o9, Option.bind_some, show (40 : Int32) = z_n 40 from rfl, sg, z_sq]
  have x15 : (if k_ix T k_w2 p < 18 then z_n (k_ix T k_w2 p) else -z_n 1) = (15 : Int32) ↔ k_ix T k_w2 p = 15 := by
    by_cases q2 : k_ix T k_w2 p < 18
    · rw [if_pos q2, show (15 : Int32) = z_n 15 from rfl, z_eq (by omega) (by omega)]
    · rw [if_neg q2]
      exact ⟨fun h => absurd h (by decide), fun h => absurd h (by omega)⟩
  have n4 : ∀ e : ¬ d = 5, ¬ (4 : Int32) < z_n d := fun e => by rw [show (4 : Int32) = z_n 4 from rfl, z_lt (by omega) (by omega)]; omega
  have p4 : ∀ e : d = 5, (4 : Int32) < z_n d := fun e => by rw [show (4 : Int32) = z_n 4 from rfl, z_lt (by omega) (by omega)]; omega
  by_cases c1 : k_ix T k_w2 p < 13
  · have k1 := (k_i2_is (show k_ix T k_w2 p < 18 by omega)).1
    have c40 : ¬ k_is T p 40 = true := fun e => by have := (k_is_k e).1; omega
    have c15 : ¬ k_ix T k_w2 p = 15 := by omega
    rw [if_neg (show ¬ ¬ (k_ix T k_w2 p < 13 ∨ k_ix T k_w2 p = 15 ∨ k_is T p 40 = true ∨ k_k T p = 2) from fun e => e (Or.inl c1)), z_b_t c1, z_b_f c40, if_neg (show ¬ z_n 1 = z_n 0 by decide)]
    by_cases e5 : d = 5
    · rw [if_pos (p4 e5), if_pos e5, g0, Option.bind_some, o9, Option.bind_some, show (5 : Int32) = z_n 5 from rfl, f5, z_sq]
    · rw [if_neg (n4 e5), if_neg e5, if_pos rfl, if_neg (fun e => c15 (x15.mp e)), if_neg (show ¬ z_n 1 = z_n 0 by decide), z_sq, oR, Option.bind_some, if_neg c40, if_neg c15, if_pos c1, if_pos (show k_ix T k_w2 p < 18 by omega)]
      rw [show (10000 : Int32) = z_n 10000 from rfl, z_n_add]
  by_cases c15 : k_ix T k_w2 p = 15
  · have k1 := (k_i2_is (show k_ix T k_w2 p < 18 by omega)).1
    have c40 : ¬ k_is T p 40 = true := fun e => by have := (k_is_k e).1; omega
    rw [if_neg (show ¬ ¬ (k_ix T k_w2 p < 13 ∨ k_ix T k_w2 p = 15 ∨ k_is T p 40 = true ∨ k_k T p = 2) from fun e => e (Or.inr (Or.inl c15))), z_b_f c1, z_b_f c40, if_pos rfl, if_pos rfl, if_pos (x15.mpr c15)]
    by_cases e5 : d = 5
    · rw [if_pos (p4 e5), if_pos e5, g0, Option.bind_some, o9, Option.bind_some, show (5 : Int32) = z_n 5 from rfl, f5, z_sq]
    · rw [if_neg (n4 e5), if_neg e5, if_pos rfl, if_pos (x15.mpr c15), g0, Option.bind_some, o9, Option.bind_some, if_neg c40, if_pos c15, d1]
      rfl
  by_cases c40 : k_is T p 40 = true
  · rw [if_neg (show ¬ ¬ (k_ix T k_w2 p < 13 ∨ k_ix T k_w2 p = 15 ∨ k_is T p 40 = true ∨ k_k T p = 2) from fun e => e (Or.inr (Or.inr (Or.inl c40)))), z_b_f c1, z_b_t c40, if_pos rfl, if_neg (show ¬ z_n 1 = z_n 0 by decide)]
    by_cases e5 : d = 5
    · rw [if_pos (p4 e5), if_pos e5, g0, Option.bind_some, o9, Option.bind_some, show (5 : Int32) = z_n 5 from rfl, f5, z_sq]
    · rw [if_neg (n4 e5), if_neg e5, if_neg (show ¬ z_n 1 = z_n 0 by decide), oR, Option.bind_some, if_pos c40, d1]
      cases f_Lr_parseInner Q r (z_n (d + 1)) (z_h S I J P n) <;> rfl
  rw [z_b_f c1, z_b_f c40, if_pos rfl, if_pos rfl, if_neg (fun e => c15 (x15.mp e)), g0, Option.bind_some, r3, Option.bind_some]
  by_cases c2 : k_k T p = 2
  · rw [if_neg (show ¬ ¬ (k_ix T k_w2 p < 13 ∨ k_ix T k_w2 p = 15 ∨ k_is T p 40 = true ∨ k_k T p = 2) from fun e => e (Or.inr (Or.inr (Or.inr c2)))), if_pos (show z_n (k_k T p) = (2 : Int32) by rw [c2]; rfl)]
    by_cases e5 : d = 5
    · rw [if_pos (p4 e5), if_pos e5, Option.bind_some, o9, Option.bind_some, show (5 : Int32) = z_n 5 from rfl, f5, z_sq]
    · rw [if_neg (n4 e5), if_neg e5, if_pos rfl, if_neg (fun e => c15 (x15.mp e)), if_pos rfl, Option.bind_some, r5, Option.bind_some, z_sq, oR, Option.bind_some, if_neg c40, if_neg c15, if_neg c1]
  · rw [if_pos (show ¬ (k_ix T k_w2 p < 13 ∨ k_ix T k_w2 p = 15 ∨ k_is T p 40 = true ∨ k_k T p = 2) from fun e => by
      rcases e with q | q | q | q
      · exact c1 q
      · exact c15 q
      · exact c40 q
      · exact c2 q), if_neg (show ¬ z_n (k_k T p) = (2 : Int32) by rw [show (2 : Int32) = z_n 2 from rfl, z_eq (by omega) (by omega)]; exact c2), Option.bind_some, o9, Option.bind_some, show (1 : Int32) = z_n 1 from rfl, f1, z_sq]
end
