/-! READ: the pair. -/
section
variable {S : z_SH} {I : z_MI} {J : z_MJ} {P : z_MP} {K : Nat → Bool} {n : Nat × Nat} {T : k_T}
set_option maxRecDepth 100000 in
set_option maxHeartbeats 4000000 in
theorem M_starts (hS : z_St S) (hP : z_Pt P) (hT : k_hd (I 83 16) (I 99) T) : ∃ X Z, f_Mo_starts 83 (z_h S I J P n) = some ((), z_h S X Z P n) ∧ (∀ a, a ≠ 83 → X a = I a) ∧ (∀ a, a ≠ 83 → Z a = J a) ∧ X 83 16 = z_n 0 ∧ X 83 32 = I 83 32 ∧ k_hd (X 83 18) (X 99) T ∧ k_M T 0 X Z := by
  have om := fun I J => z_ob (I := I) (J := J) (P := P) (n := n) (s_83 hS)
  have r16 : q_gi (q_gf (z_h S I J P n) 12 83 16) = some (I 83 16) := z_gi (s_83 hS) rfl
  have w18 : ∀ v, q_sf (z_h S I J P n) 12 83 18 (.int v) = some (z_h S (z_up I 83 18 v) J P n) := fun _ => z_sfi (s_83 hS) (by decide) rfl
  have w16 : ∀ I v, q_sf (z_h S I J P n) 12 83 16 (.int v) = some (z_h S (z_up I 83 16 v) J P n) := fun _ _ => z_sfi (s_83 hS) (by decide) rfl
  have w19 : ∀ I v, q_sf (z_h S I J P n) 12 83 19 (.int v) = some (z_h S (z_up I 83 19 v) J P n) := fun _ _ => z_sfi (s_83 hS) (by decide) rfl
  have hT' : k_hd (z_up (z_up (z_up I 83 18 (I 83 16)) 83 16 (z_n 0)) 83 19 (z_n 0) 83 18) (z_up (z_up (z_up I 83 18 (I 83 16)) 83 16 (z_n 0)) 83 19 (z_n 0) 99) T := by
    rw [z_up_i (by decide), z_up_i (by decide), z_up_s, z_ups (by decide), z_ups (by decide), z_ups (by decide)]; exact hT
  obtain ⟨X, Z, a1, a2, a3, a4, a5, a6⟩ := M_next (J := J) (n := n) hS hP hT' (p := 0) (by omega) (z_up_s _ _ _ _)
  refine ⟨X, Z, ?_, fun a ha => ?_, a4, ?_, ?_, ?_, a6⟩
  · unfold f_Mo_starts
    rw [r16, Option.bind_some, w18, Option.bind_some, show (0 : Int32) = z_n 0 from rfl, w16, Option.bind_some, w19, Option.bind_some, om, Option.bind_some, a1, z_sq]
  · rw [a2 a ha, z_ups ha, z_ups ha, z_ups ha]
  · rw [a3 16 (by decide) (by decide) (by decide) (by decide), z_up_i (by decide), z_up_s]
  · rw [a3 32 (by decide) (by decide) (by decide) (by decide), z_up_i (by decide), z_up_i (by decide), z_up_i (by decide)]
  · rw [a3 18 (by decide) (by decide) (by decide) (by decide), a2 99 (by decide)]; exact hT'
/-- the tape as both have it -/
theorem k_tape (H : i_tp I) : ∃ T : k_T, k_hd (I 9 1) (I 10) T ∧ k_hd (I 83 16) (I 99) T := by
  obtain ⟨N, t1, t2, t3, t4⟩ := H
  refine ⟨(N, fun i => (I 10 i).toNatClampNeg), ⟨t1, t2, fun i hi => ?_⟩, ⟨t1, t3, fun i hi => ?_⟩⟩
  · obtain ⟨x, h1, h2, h3⟩ := t4 i hi
    have : (I 10 i).toNatClampNeg = x := by rw [h1]; exact z_n_nat (by omega)
    simp only [this]
    exact ⟨h1, h3⟩
  · obtain ⟨x, h1, h2, h3⟩ := t4 i hi
    have : (I 10 i).toNatClampNeg = x := by rw [h1]; exact z_n_nat (by omega)
    simp only [this]
    exact ⟨h2, h3⟩
set_option maxRecDepth 100000 in
set_option maxHeartbeats 4000000 in
theorem X_read_no (H : Inv S I J P K n.1) (s : Int32) (h1 : f_Sf_isTold 13 s (z_h S I J P n) = some (z_n 0, z_h S I J P n)) (h2 : ∀ X Z n, (∀ a, a ≠ 9 → a ≠ 83 → X a = I a) → f_Mo_isSheet 83 s (z_h S X Z P n) = some (z_n 0, z_h S X Z P n)) : z_call (f_Rs_read 8 s) (f_Mo_read 83 s) S I J P n := by
  have B := H.1
  have hS := B.qS
  have hP := B.qP
  obtain ⟨T, hT1, hT2⟩ := k_tape H.2.2.1
  have g3 : q_gr (q_gf (z_h S I J P n) 0 8 3) = some 13 := z_gr (s_8 hS) rfl (p_8_3 hP)
  have o13 := z_ob (I := I) (J := J) (P := P) (n := n) (s_13 hS)
  have g0 : q_gr (q_gf (z_h S I J P n) 0 8 0) = some 9 := z_gr (s_8 hS) rfl (p_8_0 hP)
  have w9 : ∀ v, q_sf (z_h S I J P n) 1 9 1 (.int v) = some (z_h S (z_up I 9 1 v) J P n) := fun _ => z_sfi (s_9 hS) (by decide) rfl
  have om := fun I J => z_ob (I := I) (J := J) (P := P) (n := n) (s_83 hS)
  obtain ⟨X, Z, a1, a2, a3, a4, a5, -, -⟩ := M_starts (I := z_up (z_up I 9 1 (z_n 0)) 83 0 (z_n 0)) (J := J) (n := n) hS hP (T := T) (by
    rw [z_up_i (by decide), z_ups (by decide), z_ups (by decide), z_ups (by decide)]; exact hT2)
  have e : ∀ a, a ≠ 9 → a ≠ 83 → X a = I a := fun a h h' => by rw [a2 a h', z_ups h', z_ups h]
  have c : f_Rs_read 8 s (z_h S I J P n) = some (-z_n 1, z_h S (z_up I 9 1 (z_n 0)) J P n) := by
    unfold f_Rs_read
    rw [g3, Option.bind_some, o13, Option.bind_some, h1, z_sq, if_pos (show z_n 0 = (0 : Int32) from rfl), g0, Option.bind_some, show (0 : Int32) = z_n 0 from rfl, w9, Option.bind_some]
    rfl
  have m : f_Mo_read 83 s (z_h S (z_up I 9 1 (z_n 0)) J P n) = some (-z_n 1, z_h S X Z P n) := by
    unfold f_Mo_read
    rw [show (0 : Int32) = z_n 0 from rfl, M_thr hS, Option.bind_some, om, Option.bind_some, a1, z_sq, om, Option.bind_some, h2 X Z n e, z_sq, if_pos rfl]
    rfl
  refine ⟨_, _, _, _, _, _, K, _, _, c, m, ⟨by omega, by omega, by omega⟩, H.tape (fun a ha => ⟨e a (by omega) (by omega), a3 a (by omega)⟩) ?_ ⟨0, by omega, ?_, a4, fun i hi => absurd hi (by omega)⟩⟩
  · rw [a5, z_up_i (by decide), z_ups (by decide)]
  · rw [a2 9 (by decide), z_ups (by decide)]; exact z_up_s _ _ _ _
end
