/-! READ: the reference reads a tag: the step. -/
section
variable {S : z_SH} {I : z_MI} {J : z_MJ} {P : z_MP} {K : Nat → Bool} {n : Nat × Nat} {T : k_T} {p t : Nat} {D : z_D}
set_option maxRecDepth 100000 in
set_option maxHeartbeats 4000000 in
theorem M_tagS (hS : z_St S) (hP : z_Pt P) (hT : k_hd (I 83 18) (I 99) T) (hp : p ≤ T.1) (k : k_M T p I J) (h : k_mz I J D) (ml : k_ml I J D) (ok : d_ok D) (rc : k_rc D) (l12 : D.1 < 12) (ns : ¬ k_is T p 59 = true) (ix : k_ix T k_w1 p = t) (ix8 : t < 8) (m : Nat) :
    (∃ F X Z, k_tag T p t D = .inl F ∧ f_Mo_readsLine_L161 83 (z_n (288 + D.1)) (m + 1) (z_n (k_mk (d_tg D D.1))) (z_h S I J P n) = some (.inl (z_n 0), z_h S X Z P n) ∧ k_mf I J X Z ∧ X 83 24 = z_n F) ∨
    (∃ p' D' X Z, k_tag T p t D = .inr (p', D') ∧ f_Mo_readsLine_L161 83 (z_n (288 + D.1)) (m + 1) (z_n (k_mk (d_tg D D.1))) (z_h S I J P n) = f_Mo_readsLine_L161 83 (z_n (288 + D.1)) m (z_n (k_mk (d_tg D' D.1))) (z_h S X Z P n) ∧ k_mf I J X Z ∧ D'.1 = D.1 ∧ k_M T p' X Z ∧ k_mz X Z D' ∧ k_ml X Z D') := by
  have tg := M_tag (P := P) (n := n) hS k
  rw [ix, if_pos ix8] at tg
  obtain ⟨v, ev, hv⟩ := rc.2.2.2.2.1
  obtain ⟨lt, bt⟩ := d_tg_b hv ev
  have tk := (k_tag_ok (D := D) hT.1 hp l12 ix8 ⟨v, hv, ev⟩).1
  have b3 := bt 3 (by omega)
  have bt := bt t ix8
  obtain ⟨mk1, -, mk3⟩ := k_mkb _ lt t ix8
  obtain ⟨-, mk4, -⟩ := k_mkb _ lt 3 (by omega)
  have s3 : (((z_n (k_mk (d_tg D D.1)) >>> (z_n 4 &&& z_n 31)) &&& z_n 1) = z_n 0) = ¬ d_sn D D.1 3 = true := by
    rw [b3, Classical.not_not]; exact propext mk4
  have r4 : I 95 (288 + D.1) = z_n v := (ml.1 4 (by omega)).trans ev
  obtain ⟨X1, Z1, a1, a2, a3, a4, a5, a6⟩ := M_next (J := J) (n := n) hS hP hT (k_e_le hp).2 k.1
  have f1 : k_mf I J X1 Z1 := k_mf_83 a2 (fun i hi => a3 i (fun e => hi (by unfold k_5; omega)) (fun e => hi (by unfold k_5; omega)) (fun e => hi (by unfold k_5; omega)) (fun e => hi (by unfold k_5; omega))) a4 a5
  rw [M_tagE hS hP hT hp k l12 ns ix8 tg (mk1.trans bt.symm) s3 (ml.1 0 (by omega)) r4 a1 (by rw [a2 95 (by decide)]; exact r4) m]
  unfold k_tag at tk ⊢
  by_cases q : d_sn D D.1 t = true
  · rw [if_pos q, if_pos q]
    exact Or.inl ⟨_, _, _, rfl, rfl, k_mf_24 _, z_up_s _ _ _ _⟩
  rw [if_neg q] at tk
  rw [if_neg q, if_neg q]
  have m0 : d_tg D D.1 / k_tb.getD t 0 % 2 = 0 := Classical.not_not.mp (fun e => q (bt.mpr e))
  have mk3 := mk3 m0
  by_cases q2 : (D.2.1 0 D.1 = z_n 0 ∧ (t = 2 ∨ t = 3)) ∨ (t = 4 ∧ ¬ d_sn D D.1 3 = true)
  · rw [if_pos q2, if_pos q2]
    exact Or.inl ⟨_, _, _, rfl, rfl, k_mf_24 _, z_up_s _ _ _ _⟩
  rw [if_neg q2] at tk
  rw [if_neg q2, if_neg q2, mk3]
  by_cases q3 : 3 < t
  · rw [if_pos q3] at tk
    rw [if_pos q3, if_pos q3]
    obtain ⟨-, -, -, o4⟩ := tk
    have ev' : (D.2.1 4 D.1).toNatClampNeg = v := by rw [ev]; exact z_n_nat (by omega)
    rw [ev'] at o4 ⊢
    have nb : v / 2 ^ (t - 4) % 2 = 0 := by
      unfold d_sn at q
      rw [if_neg (by omega), if_neg (by omega), if_neg (by omega), if_neg (by omega), ev', decide_eq_true_eq] at q
      omega
    rw [k_mkv v hv t ix8 (by omega) nb, ← o4]
    have mz := k_mzi (k := 4) (v := z_n (v + 2 ^ (t - 4))) (h.f a2 a4) (ml.f a2 a4) (by omega)
    refine Or.inr ⟨_, _, _, _, rfl, rfl, f1.trans (k_mf_i (k := 4) (by omega) (by omega) (by omega)), rfl, ?_, mz.1, mz.2⟩
    obtain ⟨y1, y2, y3, y4, y5⟩ := a6
    refine ⟨?_, ?_, ?_, y4, fun e => ?_⟩
    · rw [z_ups (by decide)]; exact y1
    · rw [z_ups (by decide)]; exact y2
    · rw [z_ups (by decide)]; exact y3
    · rw [z_ups (by decide)]; exact y5 e
  · rw [if_neg q3] at tk
    rw [if_neg q3, if_neg q3]
    obtain ⟨r, X, Z, c1, c2, c3⟩ := M_readsName (n := n) (t := t) hS hP (f1.hd hT) (k_e_le hp).2 a6 (h.f a2 a4) (ml.f a2 a4) ok l12 (by omega)
    rw [c1, z_sq]
    generalize (if k_nm T (k_e T p) = true then k_take T (k_e T p) t D else .inl (k_fl T 1 (k_e T p))) = O at *
    rcases O with F | ⟨p', D'⟩
    · obtain ⟨d1, d2⟩ := c3
      rw [d1, if_pos rfl]
      exact Or.inl ⟨F, X, Z, rfl, rfl, f1.trans c2, d2⟩
    · obtain ⟨d1, d2, d3, d4, d5⟩ := c3
      obtain ⟨-, -, -, o4⟩ := tk
      rw [d1, if_neg (by decide)]
      exact Or.inr ⟨p', D', X, Z, rfl, by rw [o4], f1.trans c2, d2, d3, d4, d5⟩
end
