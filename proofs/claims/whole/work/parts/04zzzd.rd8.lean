/-! READ: what is read is in order. -/
theorem k_vl_pos {T : k_T} {p : Nat} (hp : p ≤ T.1) (h : k_k T p = 1) : (0 : Int64) < k_vl T p := by
  unfold k_k at h
  unfold k_vl
  by_cases q : k_b T p = T.1
  · rw [if_pos q] at h; cases h
  rw [if_neg q] at h ⊢
  by_cases q1 : k_lt (T.2 (k_b T p)) = true
  · rw [if_pos q1] at h ⊢
    by_cases q2 : 8 < k_rn T k_lt (k_b T p)
    · rw [if_pos q2] at h; cases h
    obtain ⟨v, h1, h2, h3⟩ := k_wd_nz T (k_b T p) (k_rn T k_lt (k_b T p)) (by omega) (fun j hj => by
      have := k_rn_in hj
      unfold k_lt at this
      exact of_decide_eq_true this)
    have pos : 0 < k_rn T k_lt (k_b T p) := by
      have := (k_b_le hp).2
      exact k_rn_pos (by omega) q1
    have : v < 27 ^ 8 := Nat.lt_of_lt_of_le h1 (Nat.pow_le_pow_right (by decide) (by omega))
    have p8 : (27 : Nat) ^ 8 = 282429536481 := rfl
    have h2 := h2 pos
    rw [h3, show (0 : Int64) = z_z 0 from rfl, z_z_lt (by omega) (by omega) (by omega) (by omega)]
    omega
  · rw [if_neg q1] at h
    split at h
    · split at h <;> cases h
    · split at h <;> cases h
theorem k_vl_num {T : k_T} {p : Nat} (h : k_k T p = 2) : ∃ v, v ≤ 9999 ∧ k_vl T p = z_z (v : Nat) := by
  unfold k_k at h
  unfold k_vl
  by_cases q : k_b T p = T.1
  · rw [if_pos q] at h; cases h
  rw [if_neg q] at h ⊢
  by_cases q1 : k_lt (T.2 (k_b T p)) = true
  · rw [if_pos q1] at h; split at h <;> cases h
  rw [if_neg q1] at h ⊢
  by_cases q2 : k_dg (T.2 (k_b T p)) = true
  · rw [if_pos q2] at h ⊢
    by_cases q8 : 4 < k_rn T k_dg (k_b T p)
    · rw [if_pos q8] at h; cases h
    have b4 := k_dv_le T (k_b T p) (k_rn T k_dg (k_b T p)) (fun j hj => by
      have := k_rn_in hj
      unfold k_dg at this
      rw [decide_eq_true_eq] at this
      exact this.2)
    have b5 : 10 ^ (k_rn T k_dg (k_b T p)) ≤ 10 ^ 4 := Nat.pow_le_pow_right (by decide) (by omega)
    exact ⟨_, by omega, rfl⟩
  · rw [if_neg q2] at h; split at h <;> cases h
/-- the line that is read is in order -/
def k_rc (D : z_D) : Prop := (D.2.1 0 D.1 = z_n 0 ∨ D.2.1 0 D.1 = z_n 1) ∧ (∃ a, D.2.1 1 D.1 = z_n a ∧ a ≤ 120) ∧ (D.2.1 2 D.1 = -z_n 1 ∨ ∃ x, D.2.1 2 D.1 = z_n x ∧ x < D.1) ∧ (D.2.1 3 D.1 = -z_n 1 ∨ ∃ x, D.2.1 3 D.1 = z_n x ∧ x < D.1) ∧ (∃ t, D.2.1 4 D.1 = z_n t ∧ t < 16) ∧ (D.2.2 1 D.1 = 0 ∨ 0 < D.2.2 1 D.1) ∧ (D.2.2 2 D.1 = 0 ∨ 0 < D.2.2 2 D.1) ∧ ∀ k, k < D.1 → ¬ D.2.2 0 k = D.2.2 0 D.1
theorem k_rc.ok {D : z_D} (h : d_ok D) (r : k_rc D) (l12 : D.1 < 12) : d_ok (D.1 + 1, D.2) := by
  obtain ⟨h1, h2, h3⟩ := h
  obtain ⟨r1, r2, r3, r4, r5, r6, r7, r8⟩ := r
  refine ⟨by show D.1 + 1 ≤ 12; omega, fun l hl => ?_, fun l k hl hk e => ?_⟩
  · change l < D.1 + 1 at hl
    by_cases q : l < D.1
    · obtain ⟨a1, a2, a3, a4, a5, a6, a7⟩ := h2 l q
      refine ⟨a1, a2, a3.imp id (fun ⟨x, y⟩ => ⟨x, ?_⟩), a4.imp id (fun ⟨x, y, z⟩ => ⟨x, y, ?_⟩), a5, a6, a7⟩
      · show d_hb D l < D.1 + 1; omega
      · show x < D.1 + 1; omega
    · have e : l = D.1 := by omega
      subst e
      refine ⟨r1, r2, r3.imp id (fun ⟨x, y, z⟩ => ?_), r4.imp id (fun ⟨x, y, z⟩ => ⟨x, y, ?_⟩), r5, r6, r7⟩
      · have : d_hb D D.1 = x := by unfold d_hb; rw [y]; exact z_n_nat (by omega)
        refine ⟨?_, ?_⟩
        · show D.2.1 2 D.1 = z_n (d_hb D D.1)
          rw [this]; exact y
        · show d_hb D D.1 < D.1 + 1; omega
      · show x < D.1 + 1; omega
  · change l < D.1 + 1 at hl
    change k < D.1 + 1 at hk
    change D.2.2 0 l = D.2.2 0 k at e
    by_cases q : l < D.1
    · by_cases q2 : k < D.1
      · exact h3 l k q q2 e
      · have : k = D.1 := by omega
        subst this
        exact absurd e (r8 l q)
    · have : l = D.1 := by omega
      subst this
      by_cases q2 : k < D.1
      · exact absurd e.symm (r8 k q2)
      · omega
section
variable {T : k_T} {D : z_D} {p t : Nat}
theorem k_rc.j {k : Nat} {v : Int64} (r : k_rc D) (hk : k = 1 ∨ k = 2) (hv : 0 < v) : k_rc (d_sj D k D.1 v) := by
  obtain ⟨r1, r2, r3, r4, r5, r6, r7, r8⟩ := r
  refine ⟨r1, r2, r3, r4, r5, ?_, ?_, fun k' hk' => ?_⟩
  · show (d_sj D k D.1 v).2.2 1 D.1 = 0 ∨ 0 < (d_sj D k D.1 v).2.2 1 D.1
    rcases hk with rfl | rfl
    · rw [d_sj_at]; exact Or.inr hv
    · rw [d_sj_ne _ _ _ _ (by decide)]; exact r6
  · show (d_sj D k D.1 v).2.2 2 D.1 = 0 ∨ 0 < (d_sj D k D.1 v).2.2 2 D.1
    rcases hk with rfl | rfl
    · rw [d_sj_ne _ _ _ _ (by decide)]; exact r7
    · rw [d_sj_at]; exact Or.inr hv
  · show ¬ (d_sj D k D.1 v).2.2 0 k' = (d_sj D k D.1 v).2.2 0 D.1
    rw [d_sj_ne _ _ _ _ (by omega), d_sj_ne _ _ _ _ (by omega)]
    exact r8 k' hk'
theorem k_rc.i {k m : Nat} (r : k_rc D) (hk : k = 2 ∨ k = 3) (hm : m < D.1) : k_rc (d_si D k D.1 (z_n m)) := by
  obtain ⟨r1, r2, r3, r4, r5, r6, r7, r8⟩ := r
  have ne : ∀ k', k' ≠ k → (d_si D k D.1 (z_n m)).2.1 k' D.1 = D.2.1 k' D.1 := fun k' h => d_si_ne _ _ _ _ h
  refine ⟨?_, ?_, ?_, ?_, ?_, r6, r7, r8⟩
  · show (d_si D k D.1 (z_n m)).2.1 0 D.1 = _ ∨ (d_si D k D.1 (z_n m)).2.1 0 D.1 = _
    rw [ne 0 (by omega)]; exact r1
  · show ∃ a, (d_si D k D.1 (z_n m)).2.1 1 D.1 = _ ∧ _
    rw [ne 1 (by omega)]; exact r2
  · show (d_si D k D.1 (z_n m)).2.1 2 D.1 = _ ∨ ∃ x, (d_si D k D.1 (z_n m)).2.1 2 D.1 = _ ∧ _
    rcases hk with rfl | rfl
    · rw [d_si_at]; exact Or.inr ⟨m, rfl, hm⟩
    · rw [ne 2 (by omega)]; exact r3
  · show (d_si D k D.1 (z_n m)).2.1 3 D.1 = _ ∨ ∃ x, (d_si D k D.1 (z_n m)).2.1 3 D.1 = _ ∧ _
    rcases hk with rfl | rfl
    · rw [ne 3 (by omega)]; exact r4
    · rw [d_si_at]; exact Or.inr ⟨m, rfl, hm⟩
  · show ∃ a, (d_si D k D.1 (z_n m)).2.1 4 D.1 = _ ∧ _
    rw [ne 4 (by omega)]; exact r5
theorem k_rc.v {w : Nat} (r : k_rc D) (hw : w < 16) : k_rc (d_si D 4 D.1 (z_n w)) := by
  obtain ⟨r1, r2, r3, r4, r5, r6, r7, r8⟩ := r
  have ne : ∀ k', k' ≠ 4 → (d_si D 4 D.1 (z_n w)).2.1 k' D.1 = D.2.1 k' D.1 := fun k' h => d_si_ne _ _ _ _ h
  refine ⟨?_, ?_, ?_, ?_, ⟨w, d_si_at _ _ _ _, hw⟩, r6, r7, r8⟩
  · show (d_si D 4 D.1 (z_n w)).2.1 0 D.1 = _ ∨ (d_si D 4 D.1 (z_n w)).2.1 0 D.1 = _
    rw [ne 0 (by omega)]; exact r1
  · show ∃ a, (d_si D 4 D.1 (z_n w)).2.1 1 D.1 = _ ∧ _
    rw [ne 1 (by omega)]; exact r2
  · show (d_si D 4 D.1 (z_n w)).2.1 2 D.1 = _ ∨ ∃ x, (d_si D 4 D.1 (z_n w)).2.1 2 D.1 = _ ∧ _
    rw [ne 2 (by omega)]; exact r3
  · show (d_si D 4 D.1 (z_n w)).2.1 3 D.1 = _ ∨ ∃ x, (d_si D 4 D.1 (z_n w)).2.1 3 D.1 = _ ∧ _
    rw [ne 3 (by omega)]; exact r4
def k_rk (D : z_D) (O : k_O) : Prop := match O with
  | .inl _ => True
  | .inr (_, D') => d_eq D D' ∧ (k_rc D → k_rc D')
theorem k_take_rc (hp : p ≤ T.1) (kk : k_k T p = 1) : k_rk D (k_take T p t D) := by
  have pos := k_vl_pos hp kk
  unfold k_take
  generalize k_vl T p = x at *
  split
  · exact ⟨d_sj_eq D 1 _, fun r => r.j (Or.inl rfl) pos⟩
  split
  · exact ⟨d_sj_eq D 2 _, fun r => r.j (Or.inr rfl) pos⟩
  split
  · trivial
  rename_i q
  have q' : d_nm x D < D.1 := by
    rcases Nat.lt_or_ge (d_nm x D) D.1 with g | g
    · exact g
    · exact absurd (Or.inl (by omega)) q
  split
  · exact ⟨d_si_eq D 3 _, fun r => r.i (Or.inr rfl) q'⟩
  split
  · trivial
  · exact ⟨d_si_eq D 2 _, fun r => r.i (Or.inl rfl) q'⟩
theorem k_tag_rc (hp : p ≤ T.1) (ht : t < 8) : k_rk D (k_tag T p t D) := by
  unfold k_tag
  by_cases q : d_sn D D.1 t = true
  · rw [if_pos q]; trivial
  rw [if_neg q]
  split
  · trivial
  · by_cases q3 : 3 < t
    · rw [if_pos q3]
      refine ⟨d_si_eq D 4 _, fun r => ?_⟩
      obtain ⟨v, ev, hv⟩ := r.2.2.2.2.1
      have ev' : (D.2.1 4 D.1).toNatClampNeg = v := by rw [ev]; exact z_n_nat (by omega)
      have nb : v / 2 ^ (t - 4) % 2 = 0 := by
        unfold d_sn at q
        rw [if_neg (by omega), if_neg (by omega), if_neg (by omega), if_neg (by omega), ev', decide_eq_true_eq] at q
        omega
      have w1 : v + 2 ^ (t - 4) < 16 := by
        have cs : t = 4 ∨ t = 5 ∨ t = 6 ∨ t = 7 := by omega
        rcases cs with rfl | rfl | rfl | rfl
        · change v / 1 % 2 = 0 at nb; show v + 1 < 16; omega
        · change v / 2 % 2 = 0 at nb; show v + 2 < 16; omega
        · change v / 4 % 2 = 0 at nb; show v + 4 < 16; omega
        · change v / 8 % 2 = 0 at nb; show v + 8 < 16; omega
      rw [ev']
      exact r.v w1
    · rw [if_neg q3]
      split
      · rename_i q4
        exact k_take_rc (k_e_le hp).2 (k_nm_k q4)
      · trivial
def k_hr (D : z_D) (O : k_O) : Prop := match O with
  | .inl _ => True
  | .inr (_, D') => d_eq D D' ∧ k_rc D'
theorem k_head_rc {sx : Nat} (hs : sx ≤ 1) : k_hr D (k_head T p (z_n sx) D) := by
  unfold k_head
  split
  · trivial
  split
  · trivial
  rename_i q2
  split
  · trivial
  rename_i q3
  split
  · trivial
  rename_i q4
  have q3 := Classical.not_not.mp q3
  obtain ⟨v, hv, ev⟩ := k_vl_num q3
  refine ⟨d_hd_eq D _ _ _, ?_⟩
  rw [ev, z_z_lt (by omega) (by omega) (by omega) (by omega)] at q4
  have hi := d_hd_i D (z_n sx) (k_vl T (k_e T (k_e T p))).toInt32 (k_vl T (k_e T p))
  have hj := d_hd_j D (z_n sx) (k_vl T (k_e T (k_e T p))).toInt32 (k_vl T (k_e T p))
  refine ⟨?_, ⟨v, ?_, by omega⟩, Or.inl (hi 2), Or.inl (hi 3), ⟨0, hi 4, by decide⟩, Or.inl (hj 1), Or.inl (hj 2), fun k hk => ?_⟩
  · have : sx = 0 ∨ sx = 1 := by omega
    rcases this with rfl | rfl
    · exact Or.inl (hi 0)
    · exact Or.inr (hi 0)
  · refine (hi 1).trans ?_
    rw [if_neg (by decide), if_pos rfl, ev, z_zton]
  · change k < D.1 at hk
    show ¬ (d_hd D _ _ _).2.2 0 k = (d_hd D _ _ _).2.2 0 D.1
    rw [hj 0, if_pos rfl]
    have e : (d_hd D (z_n sx) (k_vl T (k_e T (k_e T p))).toInt32 (k_vl T (k_e T p))).2.2 0 k = D.2.2 0 k := if_neg (by omega)
    rw [e]
    intro g
    apply q2
    rcases Nat.lt_or_ge (d_nm (k_vl T (k_e T p)) D) D.1 with a | a
    · exact a
    · have no := z_ff_no (fun b => decide (D.2.2 0 b = k_vl T (k_e T p))) D.1 k (by unfold d_nm at a; omega)
      exact absurd g (of_decide_eq_false no)
end
