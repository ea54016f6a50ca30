/-! The law's helpers: walks. -/
set_option maxRecDepth 100000 in
theorem b_Lw_line {fo : Option Nat} {d : Nat} (hd : 8 ≤ d + 1) {o : q_O} {σ' : q_H} (v0 : Nat) (v1 : Int32) (v2 : Int32) (v3 : Int32) (v4 : Nat) (σ : q_H) : q_J (fun (r : Int32) (σ1 : q_H) => o = .inl (some (.int r)) ∧ σ' = σ1) (f_Lw_line v0 v1 v2 v3 v4 σ) (q_G (q_rf fo) d m_Lw_line o σ' 0 [some (.ref v0), some (.int v1), some (.int v2), some (.int v3), some (.ref v4), none] [] σ) := by
  unfold f_Lw_line
  refine J_bind fun w1 hw1 => ?_
  refine J_cl fun x3 σ2 hσ2 => ?_
  refine q_J.step (fun g => j_aload rfl rfl (j_iconst (0 : Int32) rfl k32_0 (j_aload_n rfl rfl (j_iload_n rfl rfl (j_iload_n rfl rfl (j_iload_n rfl rfl (g))))))) ?_
  cases x3 with
  | none =>
    exact J_some (fun h => j_vx [.ref v0, .int v1, .int v2, .int v3] [.int (0 : Int32), .ref v4] [some (.ref v0), some (.int v1), some (.int v2), some (.int v3), some (.ref v4), none] rfl rfl rfl rfl rfl rfl hw1 (Or.inl rfl) (t_Rs_line_x (by omega) hσ2) rfl (Or.inl rfl) rfl (Or.inr rfl) rfl (j_iconst (1 : Int32) rfl k32_1 (j_iret rfl rfl h)))
  | some x4 =>
    refine J_bind fun σ5 hσ5 => ?_
    exact J_some (fun h => j_v1 [.ref v0, .int v1, .int v2, .int v3] [.int (0 : Int32), .ref v4] rfl rfl rfl rfl rfl rfl hw1 (Or.inl rfl) (t_Rs_line (by omega) hσ2) (j_i2l rfl (j_las rfl hσ5 (j_goto rfl (j_iconst (0 : Int32) rfl k32_0 (j_iret rfl rfl h))))))
theorem t_Lw_line {fo : Option Nat} {d : Nat} (hd : 8 ≤ d) {v0 : Nat} {v1 : Int32} {v2 : Int32} {v3 : Int32} {v4 : Nat} {σ σ1 : q_H} {r : Int32} (h : f_Lw_line v0 v1 v2 v3 v4 σ = some (r, σ1)) : q_Rel (q_rf fo) q_Ms d 281 [.ref v0, .int v1, .int v2, .int v3, .ref v4] σ (.inl (some (.int r))) σ1 := by
  obtain ⟨d, rfl⟩ : ∃ d1, d = d1 + 1 := ⟨d - 1, by omega⟩
  exact q_Rel.of rfl rfl (b_Lw_line hd _ _ _ _ _ σ _ _ h ⟨rfl, rfl⟩)

set_option maxRecDepth 100000 in
theorem b_Lw_move {fo : Option Nat} {d : Nat} (hd : 8 ≤ d + 1) {o : q_O} {σ' : q_H} (v0 : Nat) (v1 : Int32) (v2 : Int32) (v3 : Nat) (σ : q_H) : q_J (fun (r : Int32) (σ1 : q_H) => o = .inl (some (.int r)) ∧ σ' = σ1) (f_Lw_move v0 v1 v2 v3 σ) (q_G (q_rf fo) d m_Lw_move o σ' 0 [some (.ref v0), some (.int v1), some (.int v2), some (.ref v3), none] [] σ) := by
  unfold f_Lw_move
  refine J_bind fun w1 hw1 => ?_
  refine J_cl fun x3 σ2 hσ2 => ?_
  refine q_J.step (fun g => j_aload_n rfl rfl (j_iconst (0 : Int32) rfl k32_0 (j_aload_n rfl rfl (j_iload_n rfl rfl (j_iload_n rfl rfl (g)))))) ?_
  cases x3 with
  | none =>
    exact J_some (fun h => j_vx [.ref v0, .int v1, .int v2] [.int (0 : Int32), .ref v3] [some (.ref v0), some (.int v1), some (.int v2), some (.ref v3), none] rfl rfl rfl rfl rfl rfl hw1 (Or.inl rfl) (t_Rs_move_x (by omega) hσ2) rfl (Or.inl rfl) rfl (Or.inr rfl) rfl (j_iconst (1 : Int32) rfl k32_1 (j_iret rfl rfl h)))
  | some x4 =>
    refine J_bind fun σ5 hσ5 => ?_
    exact J_some (fun h => j_v1 [.ref v0, .int v1, .int v2] [.int (0 : Int32), .ref v3] rfl rfl rfl rfl rfl rfl hw1 (Or.inl rfl) (t_Rs_move (by omega) hσ2) (j_i2l rfl (j_las rfl hσ5 (j_goto rfl (j_iconst (0 : Int32) rfl k32_0 (j_iret rfl rfl h))))))
theorem t_Lw_move {fo : Option Nat} {d : Nat} (hd : 8 ≤ d) {v0 : Nat} {v1 : Int32} {v2 : Int32} {v3 : Nat} {σ σ1 : q_H} {r : Int32} (h : f_Lw_move v0 v1 v2 v3 σ = some (r, σ1)) : q_Rel (q_rf fo) q_Ms d 282 [.ref v0, .int v1, .int v2, .ref v3] σ (.inl (some (.int r))) σ1 := by
  obtain ⟨d, rfl⟩ : ∃ d1, d = d1 + 1 := ⟨d - 1, by omega⟩
  exact q_Rel.of rfl rfl (b_Lw_move hd _ _ _ _ σ _ _ h ⟨rfl, rfl⟩)

set_option maxRecDepth 100000 in
theorem b_Lw_lean {fo : Option Nat} {d : Nat} (hd : 8 ≤ d + 1) {o : q_O} {σ' : q_H} (v0 : Nat) (v1 : Int32) (v2 : Nat) (σ : q_H) : q_J (fun (r : Int32) (σ1 : q_H) => o = .inl (some (.int r)) ∧ σ' = σ1) (f_Lw_lean v0 v1 v2 σ) (q_G (q_rf fo) d m_Lw_lean o σ' 0 [some (.ref v0), some (.int v1), some (.ref v2), none] [] σ) := by
  unfold f_Lw_lean
  refine J_bind fun w1 hw1 => ?_
  refine J_cl fun x3 σ2 hσ2 => ?_
  refine q_J.step (fun g => j_aload_n rfl rfl (j_iconst (0 : Int32) rfl k32_0 (j_aload_n rfl rfl (j_iload_n rfl rfl (g))))) ?_
  cases x3 with
  | none =>
    exact J_some (fun h => j_vx [.ref v0, .int v1] [.int (0 : Int32), .ref v2] [some (.ref v0), some (.int v1), some (.ref v2), none] rfl rfl rfl rfl rfl rfl hw1 (Or.inl rfl) (t_Rs_lean_x (by omega) hσ2) rfl (Or.inr ⟨_, rfl, rfl⟩) rfl (Or.inr rfl) rfl (j_iconst (1 : Int32) rfl k32_1 (j_iret rfl rfl h)))
  | some x4 =>
    refine J_bind fun σ5 hσ5 => ?_
    exact J_some (fun h => j_v1 [.ref v0, .int v1] [.int (0 : Int32), .ref v2] rfl rfl rfl rfl rfl rfl hw1 (Or.inl rfl) (t_Rs_lean (by omega) hσ2) (j_i2l rfl (j_las rfl hσ5 (j_goto rfl (j_iconst (0 : Int32) rfl k32_0 (j_iret rfl rfl h))))))
theorem t_Lw_lean {fo : Option Nat} {d : Nat} (hd : 8 ≤ d) {v0 : Nat} {v1 : Int32} {v2 : Nat} {σ σ1 : q_H} {r : Int32} (h : f_Lw_lean v0 v1 v2 σ = some (r, σ1)) : q_Rel (q_rf fo) q_Ms d 283 [.ref v0, .int v1, .ref v2] σ (.inl (some (.int r))) σ1 := by
  obtain ⟨d, rfl⟩ : ∃ d1, d = d1 + 1 := ⟨d - 1, by omega⟩
  exact q_Rel.of rfl rfl (b_Lw_lean hd _ _ _ σ _ _ h ⟨rfl, rfl⟩)

set_option maxRecDepth 100000 in
theorem b_Lw_known {fo : Option Nat} {d : Nat} (hd : 8 ≤ d + 1) {o : q_O} {σ' : q_H} (v0 : Nat) (v1 : Int32) (v2 : Int32) (v3 : Int32) (v4 : Nat) (σ : q_H) : q_J (fun (r : Int32) (σ1 : q_H) => o = .inl (some (.int r)) ∧ σ' = σ1) (f_Lw_known v0 v1 v2 v3 v4 σ) (q_G (q_rf fo) d m_Lw_known o σ' 0 [some (.ref v0), some (.int v1), some (.int v2), some (.int v3), some (.ref v4), none] [] σ) := by
  unfold f_Lw_known
  refine J_bind fun w1 hw1 => ?_
  refine J_cl fun x3 σ2 hσ2 => ?_
  refine q_J.step (fun g => j_aload rfl rfl (j_iconst (0 : Int32) rfl k32_0 (j_aload_n rfl rfl (j_iload_n rfl rfl (j_iload_n rfl rfl (j_iload_n rfl rfl (g))))))) ?_
  cases x3 with
  | none =>
    exact J_some (fun h => j_vx [.ref v0, .int v1, .int v2, .int v3] [.int (0 : Int32), .ref v4] [some (.ref v0), some (.int v1), some (.int v2), some (.int v3), some (.ref v4), none] rfl rfl rfl rfl rfl rfl hw1 (Or.inl rfl) (t_Rs_known_x (by omega) hσ2) rfl (Or.inl rfl) rfl (Or.inr rfl) rfl (j_iconst (1 : Int32) rfl k32_1 (j_iret rfl rfl h)))
  | some x4 =>
    refine J_bind fun σ5 hσ5 => ?_
    exact J_some (fun h => j_v1 [.ref v0, .int v1, .int v2, .int v3] [.int (0 : Int32), .ref v4] rfl rfl rfl rfl rfl rfl hw1 (Or.inl rfl) (t_Rs_known (by omega) hσ2) (j_i2l rfl (j_las rfl hσ5 (j_goto rfl (j_iconst (0 : Int32) rfl k32_0 (j_iret rfl rfl h))))))
theorem t_Lw_known {fo : Option Nat} {d : Nat} (hd : 8 ≤ d) {v0 : Nat} {v1 : Int32} {v2 : Int32} {v3 : Int32} {v4 : Nat} {σ σ1 : q_H} {r : Int32} (h : f_Lw_known v0 v1 v2 v3 v4 σ = some (r, σ1)) : q_Rel (q_rf fo) q_Ms d 284 [.ref v0, .int v1, .int v2, .int v3, .ref v4] σ (.inl (some (.int r))) σ1 := by
  obtain ⟨d, rfl⟩ : ∃ d1, d = d1 + 1 := ⟨d - 1, by omega⟩
  exact q_Rel.of rfl rfl (b_Lw_known hd _ _ _ _ _ σ _ _ h ⟨rfl, rfl⟩)

