/-! READ: the reference reads a tag. -/
def k_mk (a : Nat) : Nat := 2 * (a / 16) + 32 * (a % 16)
theorem k_mkb : ∀ a, a < 256 → ∀ t, t < 8 → (((z_n (k_mk a) >>> (z_n (t + 1) &&& z_n 31)) &&& z_n 1) = z_n 1 ↔ ¬ a / k_tb.getD t 0 % 2 = 0) ∧ (((z_n (k_mk a) >>> (z_n (t + 1) &&& z_n 31)) &&& z_n 1) = z_n 0 ↔ a / k_tb.getD t 0 % 2 = 0) ∧ (a / k_tb.getD t 0 % 2 = 0 → (z_n (k_mk a) ||| (z_n 1 <<< (z_n (t + 1) &&& z_n 31))) = z_n (k_mk (a + k_tb.getD t 0))) := by decide +kernel
theorem k_mkv : ∀ v, v < 16 → ∀ t, t < 8 → 4 ≤ t → v / 2 ^ (t - 4) % 2 = 0 → (z_n v ||| (z_n 1 <<< ((z_n (t + 1) - z_n 5) &&& z_n 31))) = z_n (v + 2 ^ (t - 4)) := by decide +kernel
section
variable {S : z_SH} {I : z_MI} {J : z_MJ} {P : z_MP} {K : Nat → Bool} {n : Nat × Nat} {T : k_T} {p : Nat} {D : z_D}
set_option maxRecDepth 100000 in
set_option maxHeartbeats 4000000 in
theorem M_isSign (hS : z_St S) (hP : z_Pt P) (hT : k_hd (I 83 18) (I 99) T) (hp : p ≤ T.1) (k : k_M T p I J) {c : Nat} (hc : c ≤ 126) : f_Mo_isSign 83 (z_n c) (z_h S I J P n) = some (z_b (k_is T p c = true), z_h S I J P n) := by
  have r21 : q_gi (q_gf (z_h S I J P n) 12 83 21) = some (z_n (k_k T p)) := by rw [z_gi (s_83 hS) rfl, k.2.2.1]
  have r20 : q_gi (q_gf (z_h S I J P n) 12 83 20) = some (z_n (k_b T p)) := by rw [z_gi (s_83 hS) rfl, k.2.1]
  have r17 : q_gr (q_gf (z_h S I J P n) 12 83 17) = some 99 := z_gr (s_83 hS) rfl (p_83_17 hP)
  have kk : k_k T p ≤ 4 := by unfold k_k; repeat (first | omega | split)
  unfold k_is
  by_cases q : k_k T p = 3
  · obtain ⟨v1, v2⟩ := k_is_v q
    have b := (k_b_le hp).2
    have t1 := hT.1
    obtain ⟨h1, h2⟩ := hT.2.2 (k_b T p) (by omega)
    have r99 : q_gi (q_ga (z_h S I J P n) 20 99 (z_n (k_b T p))) = some (z_n (T.2 (k_b T p))) := by rw [z_gia (s_99 hS) (by omega) (z_rpl (by omega)), h1]
    generalize T.2 (k_b T p) = x at *
    by_cases q2 : x = c
    · simp (disch := omega) only [f_Mo_isSign, r21, r20, r17, r99, q, q2, or_true, true_or, or_false, false_or, z_b_T, z_b_F, Bool.false_eq_true, Classical.not_not, decide_eq_true_eq, z_sq, Option.bind_some, z_lits, z_n_add, z_n_mul, z_lt, z_le, z_eq, z_ne1, z_1ne, z_lt1, z_1lt, z_ltT, z_ltF, z_leT, z_leF, z_eqF, z_b_0, z_b_1, ↓reduceIte, eq_self, not_true_eq_false, not_false_eq_true, and_true, true_and, and_false, false_and, Nat.add_zero, Nat.zero_add]
    · simp (disch := omega) only [f_Mo_isSign, r21, r20, r17, r99, q, q2, or_true, true_or, or_false, false_or, z_b_T, z_b_F, Bool.false_eq_true, Classical.not_not, decide_eq_true_eq, z_sq, Option.bind_some, z_lits, z_n_add, z_n_mul, z_lt, z_le, z_eq, z_ne1, z_1ne, z_lt1, z_1lt, z_ltT, z_ltF, z_leT, z_leF, z_eqF, z_b_0, z_b_1, ↓reduceIte, eq_self, not_true_eq_false, not_false_eq_true, and_true, true_and, and_false, false_and, Nat.add_zero, Nat.zero_add]
  · simp (disch := omega) only [f_Mo_isSign, r21, q, or_true, true_or, or_false, false_or, z_b_T, z_b_F, Bool.false_eq_true, Classical.not_not, decide_eq_true_eq, z_sq, Option.bind_some, z_lits, z_n_add, z_n_mul, z_lt, z_le, z_eq, z_ne1, z_1ne, z_lt1, z_1lt, z_ltT, z_ltF, z_leT, z_leF, z_eqF, z_b_0, z_b_1, ↓reduceIte, eq_self, not_true_eq_false, not_false_eq_true, and_true, true_and, and_false, false_and, Nat.add_zero, Nat.zero_add]
set_option maxRecDepth 100000 in
set_option maxHeartbeats 4000000 in
theorem M_tagE (hS : z_St S) (hP : z_Pt P) (hT : k_hd (I 83 18) (I 99) T) (hp : p ≤ T.1) (k : k_M T p I J) {l v t : Nat} {sx mask : Int32} {s3 sn : Prop} [Decidable s3] [Decidable sn] (l12 : l < 12) (ns : ¬ k_is T p 59 = true) (ix8 : t < 8) (tg : f_Mo_tag 83 (z_h S I J P n) = some (z_n (t + 1), z_h S I J P n)) (m1 : ((mask >>> (z_n (t + 1) &&& z_n 31)) &&& z_n 1) = z_n 1 ↔ sn) (m3 : (((mask >>> (z_n 4 &&& z_n 31)) &&& z_n 1) = z_n 0) = ¬ s3) (hx : I 91 (288 + l) = sx) (r4 : I 95 (288 + l) = z_n v) {X1 : z_MI} {Z1 : z_MJ} (a1 : f_Mo_nextToken 83 (z_h S I J P n) = some ((), z_h S X1 Z1 P n)) (r41 : X1 95 (288 + l) = z_n v) (m : Nat) :
    f_Mo_readsLine_L161 83 (z_n (288 + l)) (m + 1) mask (z_h S I J P n) = (if sn then some (.inl (z_n 0), z_h S (z_up I 83 24 (z_n (k_fl T 3 p))) J P n) else if (sx = z_n 0 ∧ (t = 2 ∨ t = 3)) ∨ (t = 4 ∧ ¬ s3) then some (.inl (z_n 0), z_h S (z_up I 83 24 (z_n (k_fl T 6 p))) J P n) else if 3 < t then f_Mo_readsLine_L161 83 (z_n (288 + l)) m (mask ||| (z_n 1 <<< (z_n (t + 1) &&& z_n 31))) (z_h S (z_up X1 95 (288 + l) (z_n v ||| (z_n 1 <<< ((z_n (t + 1) - z_n 5) &&& z_n 31)))) Z1 P n)
    else q_sq (f_Mo_readsName 83 (z_n (288 + l)) (z_n (t + 1)) (z_h S X1 Z1 P n)) fun x34 σ33 => if x34 = z_n 0 then (some ((.inl (z_n 0)), σ33)) else (f_Mo_readsLine_L161 83 (z_n (288 + l)) m (mask ||| (z_n 1 <<< (z_n (t + 1) &&& z_n 31))) σ33)) := by
  have om := fun I J => z_ob (I := I) (J := J) (P := P) (n := n) (s_83 hS)
  have er := M_errs (n := n) hS hP k
  have er3 := er 3
  have er6 := er 6
  have sg := M_isSign (P := P) (n := n) (c := 59) hS hP hT hp k (by omega)
  rw [z_b_f ns] at sg
  have g8 : ∀ I J, q_gr (q_gf (z_h S I J P n) 12 83 8) = some 91 := fun _ _ => z_gr (s_83 hS) rfl (p_83_8 hP)
  have g12 : ∀ I J, q_gr (q_gf (z_h S I J P n) 12 83 12) = some 95 := fun _ _ => z_gr (s_83 hS) rfl (p_83_12 hP)
  have x91 : q_gi (q_ga (z_h S I J P n) 20 91 (z_n (288 + l))) = some sx := by rw [z_gia (s_91 hS) (by omega) (z_rpl (by omega)), hx]
  have x95 : q_gi (q_ga (z_h S X1 Z1 P n) 20 95 (z_n (288 + l))) = some (z_n v) := by rw [z_gia (s_95 hS) (by omega) (z_rpl (by omega)), r41]
  have w95 := fun I J v => z_sai (I := I) (J := J) (P := P) (n := n) (v := v) (s_95 hS) (by decide) (show 288 + l < 2147483648 by omega) (z_rpl (by omega))
  generalize k_fl T 3 p = F3 at *
  generalize k_fl T 6 p = F6 at *
  have m1' : (((mask >>> (z_n (t + 1) &&& z_n 31)) &&& z_n 1) = z_n 1) = sn := propext m1
  clear m1
  have l31 : (31 : Int32) = z_n 31 := rfl
  have nb : ¬ ¬ (z_n 0 = z_n 0 ∨ z_n 0 = z_n 1) := fun e => e (Or.inl rfl)
  obtain ⟨u, hu⟩ : ∃ u, t + 1 = u := ⟨_, rfl⟩
  rw [hu] at tg m1' ⊢
  have z0 : (0 : Int32) = z_n 0 := rfl
  have z1 : (1 : Int32) = z_n 1 := rfl
  have z3 : (3 : Int32) = z_n 3 := rfl
  have z4 : (4 : Int32) = z_n 4 := rfl
  have z5 : (5 : Int32) = z_n 5 := rfl
  have z6 : (6 : Int32) = z_n 6 := rfl
  have z59 : (59 : Int32) = z_n 59 := rfl
  rw [f_Mo_readsLine_L161]
  rw [om, Option.bind_some, z59, sg, z_sq, z0, if_pos rfl, om, Option.bind_some, tg, z_sq, if_neg (show ¬ z_n u = z_n 0 by rw [z_eq (by omega) (by omega)]; omega), l31, z1]
  by_cases q : sn
  · rw [if_pos q, if_pos (by rw [m1']; exact q), om, Option.bind_some, z3, er3, z_sq, if_neg nb]
  rw [if_neg q, if_neg (by rw [m1']; exact q)]
  clear tg sg er er3 m1' k hT hp ns
  have cs : (t = 0 ∧ u = 1) ∨ (t = 1 ∧ u = 2) ∨ (t = 2 ∧ u = 3) ∨ (t = 3 ∧ u = 4) ∨ (t = 4 ∧ u = 5) ∨ (t = 5 ∧ u = 6) ∨ (t = 6 ∧ u = 7) ∨ (t = 7 ∧ u = 8) := by omega
  rcases cs with ⟨rfl, rfl⟩ | ⟨rfl, rfl⟩ | ⟨rfl, rfl⟩ | ⟨rfl, rfl⟩ | ⟨rfl, rfl⟩ | ⟨rfl, rfl⟩ | ⟨rfl, rfl⟩ | ⟨rfl, rfl⟩
  · simp (disch := omega) only [z_eq, z_lt, Nat.reduceEqDiff, z_ltT, z_ltF, z_eqF, om, z_sq, Option.bind_some, a1, g8, x91, g12, x95, w95, er6, m3, z_lits, ↓reduceIte, eq_self, and_true, true_and, and_false, false_and, or_true, true_or, or_false, false_or, not_true_eq_false, not_false_eq_true, Classical.not_not]
  · simp (disch := omega) only [z_eq, z_lt, Nat.reduceEqDiff, z_ltT, z_ltF, z_eqF, om, z_sq, Option.bind_some, a1, g8, x91, g12, x95, w95, er6, m3, z_lits, ↓reduceIte, eq_self, and_true, true_and, and_false, false_and, or_true, true_or, or_false, false_or, not_true_eq_false, not_false_eq_true, Classical.not_not]
  · by_cases s : sx = z_n 0
    · simp (disch := omega) only [s, z_eq, z_lt, Nat.reduceEqDiff, z_ltT, z_ltF, z_eqF, om, z_sq, Option.bind_some, a1, g8, x91, g12, x95, w95, er6, m3, z_lits, ↓reduceIte, eq_self, and_true, true_and, and_false, false_and, or_true, true_or, or_false, false_or, not_true_eq_false, not_false_eq_true, Classical.not_not]
    · simp (disch := omega) only [s, z_eq, z_lt, Nat.reduceEqDiff, z_ltT, z_ltF, z_eqF, om, z_sq, Option.bind_some, a1, g8, x91, g12, x95, w95, er6, m3, z_lits, ↓reduceIte, eq_self, and_true, true_and, and_false, false_and, or_true, true_or, or_false, false_or, not_true_eq_false, not_false_eq_true, Classical.not_not]
  · by_cases s : sx = z_n 0
    · simp (disch := omega) only [s, z_eq, z_lt, Nat.reduceEqDiff, z_ltT, z_ltF, z_eqF, om, z_sq, Option.bind_some, a1, g8, x91, g12, x95, w95, er6, m3, z_lits, ↓reduceIte, eq_self, and_true, true_and, and_false, false_and, or_true, true_or, or_false, false_or, not_true_eq_false, not_false_eq_true, Classical.not_not]
    · simp (disch := omega) only [s, z_eq, z_lt, Nat.reduceEqDiff, z_ltT, z_ltF, z_eqF, om, z_sq, Option.bind_some, a1, g8, x91, g12, x95, w95, er6, m3, z_lits, ↓reduceIte, eq_self, and_true, true_and, and_false, false_and, or_true, true_or, or_false, false_or, not_true_eq_false, not_false_eq_true, Classical.not_not]
  · by_cases s : s3
    · simp (disch := omega) only [s, z_eq, z_lt, Nat.reduceEqDiff, z_ltT, z_ltF, z_eqF, om, z_sq, Option.bind_some, a1, g8, x91, g12, x95, w95, er6, m3, z_lits, ↓reduceIte, eq_self, and_true, true_and, and_false, false_and, or_true, true_or, or_false, false_or, not_true_eq_false, not_false_eq_true, Classical.not_not]
    · simp (disch := omega) only [s, z_eq, z_lt, Nat.reduceEqDiff, z_ltT, z_ltF, z_eqF, om, z_sq, Option.bind_some, a1, g8, x91, g12, x95, w95, er6, m3, z_lits, ↓reduceIte, eq_self, and_true, true_and, and_false, false_and, or_true, true_or, or_false, false_or, not_true_eq_false, not_false_eq_true, Classical.not_not]
  · simp (disch := omega) only [z_eq, z_lt, Nat.reduceEqDiff, z_ltT, z_ltF, z_eqF, om, z_sq, Option.bind_some, a1, g8, x91, g12, x95, w95, er6, m3, z_lits, ↓reduceIte, eq_self, and_true, true_and, and_false, false_and, or_true, true_or, or_false, false_or, not_true_eq_false, not_false_eq_true, Classical.not_not]
  · simp (disch := omega) only [z_eq, z_lt, Nat.reduceEqDiff, z_ltT, z_ltF, z_eqF, om, z_sq, Option.bind_some, a1, g8, x91, g12, x95, w95, er6, m3, z_lits, ↓reduceIte, eq_self, and_true, true_and, and_false, false_and, or_true, true_or, or_false, false_or, not_true_eq_false, not_false_eq_true, Classical.not_not]
  · simp (disch := omega) only [z_eq, z_lt, Nat.reduceEqDiff, z_ltT, z_ltF, z_eqF, om, z_sq, Option.bind_some, a1, g8, x91, g12, x95, w95, er6, m3, z_lits, ↓reduceIte, eq_self, and_true, true_and, and_false, false_and, or_true, true_or, or_false, false_or, not_true_eq_false, not_false_eq_true, Classical.not_not]
end
