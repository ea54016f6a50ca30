/-! READ: the class reads a line's tags. -/
theorem k_fl_ok {T : k_T} {c p : Nat} (hT : T.1 ≤ 1000) (hp : p ≤ T.1) (h1 : 1 ≤ c) (h2 : c ≤ 6) : 0 < k_fl T c p ∧ k_fl T c p < 20000 := by
  have := (k_b_le hp).2
  unfold k_fl
  omega
def k_pc (a : Nat) : Nat := a % 2 + a / 2 % 2 + a / 4 % 2 + a / 8 % 2 + a / 16 % 2 + a / 32 % 2 + a / 64 % 2 + a / 128 % 2
theorem k_pc_s : ∀ a, a < 256 → ∀ t, t < 8 → a / k_tb.getD t 0 % 2 = 0 → k_pc (a + k_tb.getD t 0) = k_pc a + 1 ∧ a + k_tb.getD t 0 < 256 := by decide +kernel
theorem k_pc_8 : ∀ a, a < 256 → ∀ t, t < 8 → k_pc a ≤ 8 ∧ (k_pc a = 8 → ¬ a / k_tb.getD t 0 % 2 = 0) := by decide +kernel
theorem k_nm_k {T : k_T} {p : Nat} (h : k_nm T p = true) : k_k T p = 1 := by
  unfold k_nm at h
  exact (of_decide_eq_true h).1
/-- what is sure of a tag's reading -/
def k_tk (T : k_T) (D : z_D) (t : Nat) (O : k_O) : Prop := match O with
  | .inl F => 0 < F ∧ F < 20000
  | .inr (p', D') => p' ≤ T.1 ∧ D'.1 = D.1 ∧ k_v4 D' ∧ d_tg D' D.1 = d_tg D D.1 + k_tb.getD t 0
theorem k_take_ok {T : k_T} {p t : Nat} {D : z_D} (hT : T.1 ≤ 1000) (hp : p ≤ T.1) (kk : k_k T p = 1) (l12 : D.1 < 12) (ht : t < 4) (sn : ¬ d_sn D D.1 t = true) (v4 : k_v4 D) : k_tk T D t (k_take T p t D) := by
  have nz := k_vl_nz hp kk
  have le := (k_e_le hp).2
  have cs : t = 0 ∨ t = 1 ∨ t = 2 ∨ t = 3 := by omega
  unfold k_take
  generalize k_vl T p = x at *
  rcases cs with rfl | rfl | rfl | rfl
  · have e0 : D.2.2 1 D.1 = 0 := by
      have := sn
      unfold d_sn at this
      rw [if_pos rfl, decide_eq_true_eq] at this
      exact Classical.not_not.mp this
    exact ⟨le, rfl, v4, d_tg_0 e0 nz⟩
  · have e0 : D.2.2 2 D.1 = 0 := by
      have := sn
      unfold d_sn at this
      rw [if_neg (by decide), if_pos rfl, decide_eq_true_eq] at this
      exact Classical.not_not.mp this
    exact ⟨le, rfl, v4, d_tg_1 e0 nz⟩
  · have e0 : D.2.1 2 D.1 = -z_n 1 := by
      have := sn
      unfold d_sn at this
      rw [if_neg (by decide), if_neg (by decide), if_pos rfl, decide_eq_true_eq] at this
      exact Classical.not_not.mp this
    rw [if_neg (by decide), if_neg (by decide)]
    split
    · exact k_fl_ok hT hp (by omega) (by omega)
    · rename_i q
      rw [if_neg (by decide)]
      split
      · exact k_fl_ok hT hp (by omega) (by omega)
      · exact ⟨le, rfl, v4, d_tg_2 e0 (by omega)⟩
  · have e0 : D.2.1 3 D.1 = -z_n 1 := by
      have := sn
      unfold d_sn at this
      rw [if_neg (by decide), if_neg (by decide), if_neg (by decide), if_pos rfl, decide_eq_true_eq] at this
      exact Classical.not_not.mp this
    rw [if_neg (by decide), if_neg (by decide)]
    split
    · exact k_fl_ok hT hp (by omega) (by omega)
    · rename_i q
      rw [if_pos rfl]
      exact ⟨le, rfl, v4, d_tg_3 e0 (by omega)⟩
theorem k_tag_ok {T : k_T} {p t : Nat} {D : z_D} (hT : T.1 ≤ 1000) (hp : p ≤ T.1) (l12 : D.1 < 12) (ht : t < 8) (v4 : k_v4 D) : k_tk T D t (k_tag T p t D) ∧ (d_sn D D.1 t = true → ∃ F, k_tag T p t D = .inl F) := by
  unfold k_tag
  by_cases q : d_sn D D.1 t = true
  · rw [if_pos q]
    exact ⟨k_fl_ok hT hp (by omega) (by omega), fun _ => ⟨_, rfl⟩⟩
  rw [if_neg q]
  refine ⟨?_, fun e => absurd e q⟩
  split
  · exact k_fl_ok hT hp (by omega) (by omega)
  · by_cases q3 : 3 < t
    · rw [if_pos q3]
      obtain ⟨v, hv, ev⟩ := v4
      have ev' : (D.2.1 4 D.1).toNatClampNeg = v := by rw [ev]; exact z_n_nat (by omega)
      have nb : v / 2 ^ (t - 4) % 2 = 0 := by
        unfold d_sn at q
        rw [if_neg (by omega), if_neg (by omega), if_neg (by omega), if_neg (by omega), ev', decide_eq_true_eq] at q
        omega
      obtain ⟨w1, w2, w3⟩ : v + 2 ^ (t - 4) < 16 ∧ k_tb.getD t 0 = 2 ^ (t - 4) ∧ 2 ^ (t - 4) < 16 := by
        have cs : t = 4 ∨ t = 5 ∨ t = 6 ∨ t = 7 := by omega
        rcases cs with rfl | rfl | rfl | rfl
        · refine ⟨?_, rfl, by decide⟩
          change v / 1 % 2 = 0 at nb; show v + 1 < 16; omega
        · refine ⟨?_, rfl, by decide⟩
          change v / 2 % 2 = 0 at nb; show v + 2 < 16; omega
        · refine ⟨?_, rfl, by decide⟩
          change v / 4 % 2 = 0 at nb; show v + 4 < 16; omega
        · refine ⟨?_, rfl, by decide⟩
          change v / 8 % 2 = 0 at nb; show v + 8 < 16; omega
      rw [ev']
      exact ⟨(k_e_le hp).2, rfl, ⟨_, w1, d_si_at _ _ _ _⟩, by rw [d_tg_4 hv ev _ w3, ← w2]⟩
    · rw [if_neg q3]
      split
      · rename_i q4
        exact k_take_ok hT (k_e_le hp).2 (k_nm_k q4) l12 (by omega) q v4
      · exact k_fl_ok hT (k_e_le hp).2 (by omega) (by omega)
theorem k_is_v {T : k_T} {p : Nat} (h : k_k T p = 3) : k_vl T p = (z_n (T.2 (k_b T p))).toInt64 ∧ ¬ k_b T p = T.1 := by
  unfold k_k at h
  unfold k_vl
  by_cases q : k_b T p = T.1
  · rw [if_pos q] at h; cases h
  rw [if_neg q] at h ⊢
  by_cases q1 : k_lt (T.2 (k_b T p)) = true
  · rw [if_pos q1] at h; split at h <;> cases h
  · rw [if_neg q1] at h ⊢
    by_cases q2 : k_dg (T.2 (k_b T p)) = true
    · rw [if_pos q2] at h; split at h <;> cases h
    · rw [if_neg q2]; exact ⟨rfl, q⟩
section
variable {S : z_SH} {I : z_MI} {J : z_MJ} {P : z_MP} {K : Nat → Bool} {n : Nat × Nat} {T : k_T} {r g p t : Nat} {D : z_D}
set_option maxRecDepth 100000 in
set_option maxHeartbeats 4000000 in
theorem C_isSign (hS : z_St S) (hp : p ≤ T.1) (ht : k_hd (I 9 1) (I 10) T) (k : k_C T p I J) {c : Nat} (hc : c ≤ 126) : f_Ta_isSign 9 (z_n c) (z_h S I J P n) = some (z_b (k_is T p c = true), z_h S I J P n) := by
  have r3 : q_gi (q_gf (z_h S I J P n) 1 9 3) = some (z_n (k_k T p)) := by rw [z_gi (s_9 hS) rfl, k.2.1]
  have r5 : q_gl' (q_gf (z_h S I J P n) 1 9 5) = some (k_vl T p) := by rw [z_gl (s_9 hS) rfl, k.2.2.2]
  have kk : k_k T p ≤ 4 := by unfold k_k; repeat (first | omega | split)
  unfold k_is
  by_cases q : k_k T p = 3
  · obtain ⟨v1, v2⟩ := k_is_v q
    have b := (k_b_le hp).2
    have h2 := (ht.2.2 (k_b T p) (by omega)).2
    rw [v1] at r5
    generalize T.2 (k_b T p) = x at *
    have e : ((z_n x).toInt64 = (z_n c).toInt64) = (x = c) := by
      rw [z_z32 (by omega), z_z32 (by omega), z_z_eq (by omega) (by omega) (by omega) (by omega)]
      exact propext ⟨fun h => by omega, fun h => by omega⟩
    by_cases q2 : x = c
    · simp (disch := omega) only [f_Ta_isSign, r3, r5, q, e, q2, or_true, true_or, or_false, false_or, z_b_T, z_b_F, Bool.false_eq_true, Classical.not_not, decide_eq_true_eq, z_sq, Option.bind_some, z_lits, z_n_add, z_n_mul, z_lt, z_le, z_eq, z_ne1, z_1ne, z_lt1, z_1lt, z_ltT, z_ltF, z_leT, z_leF, z_eqF, z_b_0, z_b_1, ↓reduceIte, eq_self, not_true_eq_false, not_false_eq_true, and_true, true_and, and_false, false_and, Nat.add_zero, Nat.zero_add]
    · simp (disch := omega) only [f_Ta_isSign, r3, r5, q, e, q2, or_true, true_or, or_false, false_or, z_b_T, z_b_F, Bool.false_eq_true, Classical.not_not, decide_eq_true_eq, z_sq, Option.bind_some, z_lits, z_n_add, z_n_mul, z_lt, z_le, z_eq, z_ne1, z_1ne, z_lt1, z_1lt, z_ltT, z_ltF, z_leT, z_leF, z_eqF, z_b_0, z_b_1, ↓reduceIte, eq_self, not_true_eq_false, not_false_eq_true, and_true, true_and, and_false, false_and, Nat.add_zero, Nat.zero_add]
  · simp (disch := omega) only [f_Ta_isSign, r3, q, or_true, true_or, or_false, false_or, z_b_T, z_b_F, Bool.false_eq_true, Classical.not_not, decide_eq_true_eq, z_sq, Option.bind_some, z_lits, z_n_add, z_n_mul, z_lt, z_le, z_eq, z_ne1, z_1ne, z_lt1, z_1lt, z_ltT, z_ltF, z_leT, z_leF, z_eqF, z_b_0, z_b_1, ↓reduceIte, eq_self, not_true_eq_false, not_false_eq_true, and_true, true_and, and_false, false_and, Nat.add_zero, Nat.zero_add]
end
