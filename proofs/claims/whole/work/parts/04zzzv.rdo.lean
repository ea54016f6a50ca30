/-! READ: the reference keeps what it read. -/
def k_cpI (I : z_MI) (a b : Nat) : Nat → z_MI
  | 0 => I
  | k + 1 => z_up (k_cpI I a b k) (91 + k) b (I (91 + k) a)
def k_cpJ (J : z_MJ) (a b : Nat) : Nat → z_MJ
  | 0 => J
  | k + 1 => z_uj (k_cpJ J a b k) (96 + k) b (J (96 + k) a)
theorem k_cpI_e (I : z_MI) (a b x i : Nat) : ∀ k, k_cpI I a b k x i = if 91 ≤ x ∧ x < 91 + k ∧ i = b then I x a else I x i
  | 0 => by rw [if_neg (by omega)]; rfl
  | k + 1 => by
    rw [k_cpI]
    by_cases e : x = 91 + k ∧ i = b
    · obtain ⟨rfl, rfl⟩ := e
      rw [z_up_s, if_pos (by omega)]
    · have : z_up (k_cpI I a b k) (91 + k) b (I (91 + k) a) x i = k_cpI I a b k x i := if_neg e
      rw [this, k_cpI_e I a b x i k]
      by_cases q : 91 ≤ x ∧ x < 91 + k ∧ i = b
      · rw [if_pos q, if_pos (by omega)]
      · rw [if_neg q, if_neg (by omega)]
theorem k_cpJ_e (J : z_MJ) (a b x i : Nat) : ∀ k, k_cpJ J a b k x i = if 96 ≤ x ∧ x < 96 + k ∧ i = b then J x a else J x i
  | 0 => by rw [if_neg (by omega)]; rfl
  | k + 1 => by
    rw [k_cpJ]
    by_cases e : x = 96 + k ∧ i = b
    · obtain ⟨rfl, rfl⟩ := e
      rw [z_uj_s, if_pos (by omega)]
    · have : z_uj (k_cpJ J a b k) (96 + k) b (J (96 + k) a) x i = k_cpJ J a b k x i := if_neg e
      rw [this, k_cpJ_e J a b x i k]
      by_cases q : 96 ≤ x ∧ x < 96 + k ∧ i = b
      · rw [if_pos q, if_pos (by omega)]
      · rw [if_neg q, if_neg (by omega)]
section
variable {S : z_SH} {I : z_MI} {J : z_MJ} {P : z_MP} {n : Nat × Nat}
set_option maxRecDepth 100000 in
set_option maxHeartbeats 4000000 in
theorem M_copies (hS : z_St S) (hP : z_Pt P) {a b : Nat} (ha : a < 300) (hb : b < 300) : f_Mo_copies 83 (z_n a) (z_n b) (z_h S I J P n) = some ((), z_h S (k_cpI I a b 5) (k_cpJ J a b 3) P n) := by
  have g8 : ∀ X Z, q_gr (q_gf (z_h S X Z P n) 12 83 8) = some 91 := fun _ _ => z_gr (s_83 hS) rfl (p_83_8 hP)
  have g9 : ∀ X Z, q_gr (q_gf (z_h S X Z P n) 12 83 9) = some 92 := fun _ _ => z_gr (s_83 hS) rfl (p_83_9 hP)
  have g10 : ∀ X Z, q_gr (q_gf (z_h S X Z P n) 12 83 10) = some 93 := fun _ _ => z_gr (s_83 hS) rfl (p_83_10 hP)
  have g11 : ∀ X Z, q_gr (q_gf (z_h S X Z P n) 12 83 11) = some 94 := fun _ _ => z_gr (s_83 hS) rfl (p_83_11 hP)
  have g12 : ∀ X Z, q_gr (q_gf (z_h S X Z P n) 12 83 12) = some 95 := fun _ _ => z_gr (s_83 hS) rfl (p_83_12 hP)
  have g13 : ∀ X Z, q_gr (q_gf (z_h S X Z P n) 12 83 13) = some 96 := fun _ _ => z_gr (s_83 hS) rfl (p_83_13 hP)
  have g14 : ∀ X Z, q_gr (q_gf (z_h S X Z P n) 12 83 14) = some 97 := fun _ _ => z_gr (s_83 hS) rfl (p_83_14 hP)
  have g15 : ∀ X Z, q_gr (q_gf (z_h S X Z P n) 12 83 15) = some 98 := fun _ _ => z_gr (s_83 hS) rfl (p_83_15 hP)
  have rI : ∀ k, k < 5 → k_cpI I a b k (91 + k) a = I (91 + k) a := fun k hk => by rw [k_cpI_e, if_neg (by omega)]
  have rJ : ∀ k, k < 3 → k_cpJ J a b k (96 + k) a = J (96 + k) a := fun k hk => by rw [k_cpJ_e, if_neg (by omega)]
  have r0 : ∀ Z, q_gi (q_ga (z_h S (k_cpI I a b 0) Z P n) 20 91 (z_n a)) = some (I 91 a) := fun Z => (z_gia (s_91 hS) (by omega) (z_rpl (by omega))).trans (congrArg some (rI 0 (by omega)))
  have r1 : ∀ Z, q_gi (q_ga (z_h S (k_cpI I a b 1) Z P n) 20 92 (z_n a)) = some (I 92 a) := fun Z => (z_gia (s_92 hS) (by omega) (z_rpl (by omega))).trans (congrArg some (rI 1 (by omega)))
  have r2 : ∀ Z, q_gi (q_ga (z_h S (k_cpI I a b 2) Z P n) 20 93 (z_n a)) = some (I 93 a) := fun Z => (z_gia (s_93 hS) (by omega) (z_rpl (by omega))).trans (congrArg some (rI 2 (by omega)))
  have r3 : ∀ Z, q_gi (q_ga (z_h S (k_cpI I a b 3) Z P n) 20 94 (z_n a)) = some (I 94 a) := fun Z => (z_gia (s_94 hS) (by omega) (z_rpl (by omega))).trans (congrArg some (rI 3 (by omega)))
  have r4 : ∀ Z, q_gi (q_ga (z_h S (k_cpI I a b 4) Z P n) 20 95 (z_n a)) = some (I 95 a) := fun Z => (z_gia (s_95 hS) (by omega) (z_rpl (by omega))).trans (congrArg some (rI 4 (by omega)))
  have r5 : ∀ X, q_gl' (q_ga (z_h S X (k_cpJ J a b 0) P n) 21 96 (z_n a)) = some (J 96 a) := fun X => (z_gla (s_96 hS) (by omega) (z_rpl (by omega))).trans (congrArg some (rJ 0 (by omega)))
  have r6 : ∀ X, q_gl' (q_ga (z_h S X (k_cpJ J a b 1) P n) 21 97 (z_n a)) = some (J 97 a) := fun X => (z_gla (s_97 hS) (by omega) (z_rpl (by omega))).trans (congrArg some (rJ 1 (by omega)))
  have r7 : ∀ X, q_gl' (q_ga (z_h S X (k_cpJ J a b 2) P n) 21 98 (z_n a)) = some (J 98 a) := fun X => (z_gla (s_98 hS) (by omega) (z_rpl (by omega))).trans (congrArg some (rJ 2 (by omega)))
  have w0 : ∀ Z, q_sa (z_h S (k_cpI I a b 0) Z P n) 20 91 (z_n b) (.int (I 91 a)) = some (z_h S (k_cpI I a b 1) Z P n) := fun _ => z_sai (s_91 hS) (by decide) (by omega) (z_rpl (by omega))
  have w1 : ∀ Z, q_sa (z_h S (k_cpI I a b 1) Z P n) 20 92 (z_n b) (.int (I 92 a)) = some (z_h S (k_cpI I a b 2) Z P n) := fun _ => z_sai (s_92 hS) (by decide) (by omega) (z_rpl (by omega))
  have w2 : ∀ Z, q_sa (z_h S (k_cpI I a b 2) Z P n) 20 93 (z_n b) (.int (I 93 a)) = some (z_h S (k_cpI I a b 3) Z P n) := fun _ => z_sai (s_93 hS) (by decide) (by omega) (z_rpl (by omega))
  have w3 : ∀ Z, q_sa (z_h S (k_cpI I a b 3) Z P n) 20 94 (z_n b) (.int (I 94 a)) = some (z_h S (k_cpI I a b 4) Z P n) := fun _ => z_sai (s_94 hS) (by decide) (by omega) (z_rpl (by omega))
  have w4 : ∀ Z, q_sa (z_h S (k_cpI I a b 4) Z P n) 20 95 (z_n b) (.int (I 95 a)) = some (z_h S (k_cpI I a b 5) Z P n) := fun _ => z_sai (s_95 hS) (by decide) (by omega) (z_rpl (by omega))
  have w5 : ∀ X, q_sa (z_h S X (k_cpJ J a b 0) P n) 21 96 (z_n b) (.long (J 96 a)) = some (z_h S X (k_cpJ J a b 1) P n) := fun _ => z_sal (s_96 hS) (by decide) (by omega) (z_rpl (by omega))
  have w6 : ∀ X, q_sa (z_h S X (k_cpJ J a b 1) P n) 21 97 (z_n b) (.long (J 97 a)) = some (z_h S X (k_cpJ J a b 2) P n) := fun _ => z_sal (s_97 hS) (by decide) (by omega) (z_rpl (by omega))
  have w7 : ∀ X, q_sa (z_h S X (k_cpJ J a b 2) P n) 21 98 (z_n b) (.long (J 98 a)) = some (z_h S X (k_cpJ J a b 3) P n) := fun _ => z_sal (s_98 hS) (by decide) (by omega) (z_rpl (by omega))
  rw [show z_h S I J P n = z_h S (k_cpI I a b 0) (k_cpJ J a b 0) P n from rfl]
  unfold f_Mo_copies
  rw [g8, Option.bind_some, Option.bind_some, r0, Option.bind_some, w0, Option.bind_some, g9, Option.bind_some, Option.bind_some, r1, Option.bind_some, w1, Option.bind_some, g10, Option.bind_some, Option.bind_some, r2, Option.bind_some, w2, Option.bind_some, g11, Option.bind_some, Option.bind_some, r3, Option.bind_some, w3, Option.bind_some, g12, Option.bind_some, Option.bind_some, r4, Option.bind_some, w4, Option.bind_some, g13, Option.bind_some, Option.bind_some, r5, Option.bind_some, w5, Option.bind_some, g14, Option.bind_some, Option.bind_some, r6, Option.bind_some, w6, Option.bind_some, g15, Option.bind_some, Option.bind_some, r7, Option.bind_some, w7, Option.bind_some]
def k_q (I : z_MI) (J : z_MJ) (s j : Nat) (X : z_MI) (Z : z_MJ) : Prop := (∀ x i, X x i = if 91 ≤ x ∧ x < 96 ∧ 12 * s ≤ i ∧ i < 12 * s + j then I x (288 + (i - 12 * s)) else I x i) ∧ ∀ x i, Z x i = if 96 ≤ x ∧ x < 99 ∧ 12 * s ≤ i ∧ i < 12 * s + j then J x (288 + (i - 12 * s)) else J x i
set_option maxRecDepth 100000 in
set_option maxHeartbeats 4000000 in
theorem M_kept (hS : z_St S) (hP : z_Pt P) {s : Nat} (hs : s < 24) : ∃ X Z, f_Mo_read_L119 83 (z_n s) q_FU (0 : Int32) (z_h S I J P n) = some ((), z_h S X Z P n) ∧ k_q I J s 12 X Z := by
  have om := fun I J => z_ob (I := I) (J := J) (P := P) (n := n) (s_83 hS)
  exact z_runI (fun m j (x : z_MI × z_MJ) => f_Mo_read_L119 83 (z_n s) m (z_n j) (z_h S x.1 x.2 P n)) 12
    (fun j x => k_q I J s j x.1 x.2)
    (fun r => ∃ X Z, r = some ((), z_h S X Z P n) ∧ k_q I J s 12 X Z) (by omega)
    (by
      intro m j ⟨X, Z⟩ hj ⟨q1, q2⟩
      dsimp only at q1 q2
      refine ⟨(k_cpI X (288 + j) (12 * s + j) 5, k_cpJ Z (288 + j) (12 * s + j) 3), ⟨fun x i => ?_, fun x i => ?_⟩, ?_⟩
      · show k_cpI X (288 + j) (12 * s + j) 5 x i = _
        rw [k_cpI_e]
        by_cases e : 91 ≤ x ∧ x < 91 + 5 ∧ i = 12 * s + j
        · rw [if_pos e, q1, if_neg (by omega), if_pos (by omega), show 288 + (i - 12 * s) = 288 + j by omega]
        · rw [if_neg e, q1]
          by_cases e2 : 91 ≤ x ∧ x < 96 ∧ 12 * s ≤ i ∧ i < 12 * s + j
          · rw [if_pos e2, if_pos (by omega)]
          · rw [if_neg e2, if_neg (by omega)]
      · show k_cpJ Z (288 + j) (12 * s + j) 3 x i = _
        rw [k_cpJ_e]
        by_cases e : 96 ≤ x ∧ x < 96 + 3 ∧ i = 12 * s + j
        · rw [if_pos e, q2, if_neg (by omega), if_pos (by omega), show 288 + (i - 12 * s) = 288 + j by omega]
        · rw [if_neg e, q2]
          by_cases e2 : 96 ≤ x ∧ x < 99 ∧ 12 * s ≤ i ∧ i < 12 * s + j
          · rw [if_pos e2, if_pos (by omega)]
          · rw [if_neg e2, if_neg (by omega)]
      · dsimp only
        rw [f_Mo_read_L119, show (12 : Int32) = z_n 12 from rfl, if_pos (by rw [z_lt (by omega) (by omega)]; exact hj), om, Option.bind_some, show (288 : Int32) = z_n 288 from rfl, z_n_mul, z_n_add, z_n_add, M_copies hS hP (by omega) (by omega), z_sq, show (1 : Int32) = z_n 1 from rfl, z_n_add])
    (by
      intro m ⟨X, Z⟩ q
      refine ⟨X, Z, ?_, q⟩
      dsimp only
      rw [f_Mo_read_L119, show (12 : Int32) = z_n 12 from rfl, if_neg (by rw [z_lt (by omega) (by omega)]; omega)])
    (x := (I, J)) ⟨fun x i => by rw [if_neg (by omega)], fun x i => by rw [if_neg (by omega)]⟩
end
