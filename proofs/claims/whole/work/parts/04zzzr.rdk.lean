/-! READ: the reference reads a line. -/
/-- the answer and the rows when a line is read -/
def k_mq (T : k_T) (D : z_D) (r : Int32) (X : z_MI) (Z : z_MJ) (O : k_O) : Prop := match O with
  | .inl F => r = z_n 0 ∧ X 83 24 = z_n F
  | .inr (p', D') => r = z_n 1 ∧ D'.1 = D.1 ∧ k_M T p' X Z ∧ k_mz X Z (D'.1 + 1, D'.2)
section
variable {S : z_SH} {I : z_MI} {J : z_MJ} {P : z_MP} {K : Nat → Bool} {n : Nat × Nat} {T : k_T} {p : Nat} {D : z_D}
theorem k_wom (h : k_k T p = 1 ∧ k_vl T p = 12527906) : k_ix T k_w1 p = 9 := k_ix_w h.1 (by omega) h.2.symm
theorem k_wom' (h : k_ix T k_w1 p = 9) : k_k T p = 1 ∧ k_vl T p = 12527906 := by
  have := z_ff_is (fun i => decide (k_k T p = 1) && decide (k_w1.getD i 0 = k_vl T p)) k_w1.length (by change k_ix T k_w1 p < 10; omega)
  change (decide (k_k T p = 1) && decide (k_w1.getD (k_ix T k_w1 p) 0 = k_vl T p)) = true at this
  rw [Bool.and_eq_true, decide_eq_true_eq, decide_eq_true_eq, h] at this
  exact ⟨this.1, this.2.symm⟩
set_option maxRecDepth 100000 in
set_option maxHeartbeats 4000000 in
theorem M_line (hS : z_St S) (hP : z_Pt P) (hT : k_hd (I 83 18) (I 99) T) (hp : p ≤ T.1) (k : k_M T p I J) (h : k_mz I J D) (ok : d_ok D) (l12 : D.1 < 12) : ∃ r X Z, f_Mo_readsLine 83 (z_h S I J P n) = some (r, z_h S X Z P n) ∧ k_mf I J X Z ∧ k_mq T D r X Z (k_line T p (if k_ix T k_w1 p = 9 then z_n 1 else z_n 0) D) := by
  have om := fun I J => z_ob (I := I) (J := J) (P := P) (n := n) (s_83 hS)
  have a300 : 288 + D.1 < 300 := by omega
  have g7 : ∀ I J, q_gr (q_gf (z_h S I J P n) 12 83 7) = some 90 := fun _ _ => z_gr (s_83 hS) rfl (p_83_7 hP)
  have g8 : ∀ I J, q_gr (q_gf (z_h S I J P n) 12 83 8) = some 91 := fun _ _ => z_gr (s_83 hS) rfl (p_83_8 hP)
  have g9 : ∀ I J, q_gr (q_gf (z_h S I J P n) 12 83 9) = some 92 := fun _ _ => z_gr (s_83 hS) rfl (p_83_9 hP)
  have g10 : ∀ I J, q_gr (q_gf (z_h S I J P n) 12 83 10) = some 93 := fun _ _ => z_gr (s_83 hS) rfl (p_83_10 hP)
  have g11 : ∀ I J, q_gr (q_gf (z_h S I J P n) 12 83 11) = some 94 := fun _ _ => z_gr (s_83 hS) rfl (p_83_11 hP)
  have g12 : ∀ I J, q_gr (q_gf (z_h S I J P n) 12 83 12) = some 95 := fun _ _ => z_gr (s_83 hS) rfl (p_83_12 hP)
  have g13 : ∀ I J, q_gr (q_gf (z_h S I J P n) 12 83 13) = some 96 := fun _ _ => z_gr (s_83 hS) rfl (p_83_13 hP)
  have g14 : ∀ I J, q_gr (q_gf (z_h S I J P n) 12 83 14) = some 97 := fun _ _ => z_gr (s_83 hS) rfl (p_83_14 hP)
  have g15 : ∀ I J, q_gr (q_gf (z_h S I J P n) 12 83 15) = some 98 := fun _ _ => z_gr (s_83 hS) rfl (p_83_15 hP)
  have r90 : ∀ I J, q_gi (q_ga (z_h S I J P n) 20 90 (z_n 24)) = some (I 90 24) := fun _ _ => z_gia (s_90 hS) (by omega) (z_rpl (by omega))
  have w91 := fun I J v => z_sai (I := I) (J := J) (P := P) (n := n) (v := v) (s_91 hS) (by decide) (show 288 + D.1 < 2147483648 by omega) (z_rpl a300)
  have w92 := fun I J v => z_sai (I := I) (J := J) (P := P) (n := n) (v := v) (s_92 hS) (by decide) (show 288 + D.1 < 2147483648 by omega) (z_rpl a300)
  have w93 := fun I J v => z_sai (I := I) (J := J) (P := P) (n := n) (v := v) (s_93 hS) (by decide) (show 288 + D.1 < 2147483648 by omega) (z_rpl a300)
  have w94 := fun I J v => z_sai (I := I) (J := J) (P := P) (n := n) (v := v) (s_94 hS) (by decide) (show 288 + D.1 < 2147483648 by omega) (z_rpl a300)
  have w95 := fun I J v => z_sai (I := I) (J := J) (P := P) (n := n) (v := v) (s_95 hS) (by decide) (show 288 + D.1 < 2147483648 by omega) (z_rpl a300)
  have w96 := fun I J v => z_sal (I := I) (J := J) (P := P) (n := n) (v := v) (s_96 hS) (by decide) (show 288 + D.1 < 2147483648 by omega) (z_rpl a300)
  have w97 := fun I J v => z_sal (I := I) (J := J) (P := P) (n := n) (v := v) (s_97 hS) (by decide) (show 288 + D.1 < 2147483648 by omega) (z_rpl a300)
  have w98 := fun I J v => z_sal (I := I) (J := J) (P := P) (n := n) (v := v) (s_98 hS) (by decide) (show 288 + D.1 < 2147483648 by omega) (z_rpl a300)
  have wo := M_isWord (P := P) (n := n) hS k 12527906
  have sxe : (q_sq (if z_b (k_k T p = 1 ∧ k_vl T p = 12527906) = (0 : Int32) then (some ((0 : Int32), z_h S I J P n)) else (some ((1 : Int32), z_h S I J P n))) : (Int32 → q_H → Option (Int32 × q_H)) → _) = fun K => K (if k_ix T k_w1 p = 9 then z_n 1 else z_n 0) (z_h S I J P n) := by
    funext K
    by_cases q : k_k T p = 1 ∧ k_vl T p = 12527906
    · rw [z_b_t q, if_pos (k_wom q)]; rfl
    · rw [z_b_f q, if_neg (fun e => q (k_wom' e))]; rfl
  generalize (if k_ix T k_w1 p = 9 then z_n 1 else z_n 0) = sx at *
  have f3 : k_mf I J (z_up (z_up (z_up (z_up I 91 (288 + D.1) sx) 93 (288 + D.1) (-z_n 1)) 94 (288 + D.1) (-z_n 1)) 95 (288 + D.1) (z_n 0)) (z_uj (z_uj J 97 (288 + D.1) 0) 98 (288 + D.1) 0) :=
    (k_mf_i (k := 0) (by omega) (by omega) a300).trans ((k_mf_i (k := 2) (by omega) (by omega) a300).trans ((k_mf_i (k := 3) (by omega) (by omega) a300).trans ((k_mf_i (k := 4) (by omega) (by omega) a300).trans ((k_mf_j (k := 1) (by omega) (by omega) a300).trans (k_mf_j (k := 2) (by omega) (by omega) a300)))))
  sorry
end
