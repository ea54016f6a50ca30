/-! LAW: tokens; the small steps of both. -/
section
variable {T : k_T} {p : Nat}
theorem k_is_k {c : Nat} (h : k_is T p c = true) : k_k T p = 3 ∧ T.2 (k_b T p) = c := of_decide_eq_true h
theorem k_is_o {c e : Nat} (h : k_is T p c = true) (n : ¬ c = e) : k_is T p e = false := by
  unfold k_is
  rw [decide_eq_false]
  intro q
  exact n ((k_is_k h).2.symm.trans q.2)
theorem k_i2_w {i : Nat} (h1 : k_k T p = 1) (hi : i < 18) (h : k_vl T p = k_w2.getD i 0) : k_ix T k_w2 p = i := by
  unfold k_ix
  rw [decide_eq_true h1, h]
  have : ∀ i, i < 18 → z_ff (fun j => true && decide (k_w2.getD j 0 = k_w2.getD i 0)) k_w2.length = i := by decide
  exact this i hi
theorem k_i2_is (h : k_ix T k_w2 p < 18) : k_k T p = 1 ∧ k_vl T p = k_w2.getD (k_ix T k_w2 p) 0 := by
  have := z_ff_is (fun i => decide (k_k T p = 1) && decide (k_w2.getD i 0 = k_vl T p)) k_w2.length h
  rw [Bool.and_eq_true, decide_eq_true_eq, decide_eq_true_eq] at this
  exact ⟨this.1, this.2.symm⟩
theorem k_i2_le : k_ix T k_w2 p ≤ 18 := k_ix_le T k_w2 p
theorem k_i2_iff {i : Nat} (hi : i < 18) : (k_k T p = 1 ∧ k_vl T p = k_w2.getD i 0) = (k_ix T k_w2 p = i) := by
  apply propext
  constructor
  · intro h; exact k_i2_w h.1 hi h.2
  · intro h; subst h; exact k_i2_is hi
theorem k_i2_s (h : k_k T p ≠ 1) : k_ix T k_w2 p = 18 := by
  have := @k_i2_le T p
  rcases Nat.lt_or_ge (k_ix T k_w2 p) 18 with g | g
  · exact absurd (k_i2_is g).1 h
  · omega
theorem k_k4 : k_k T p ≤ 4 := by unfold k_k; repeat (first | omega | split)
theorem k_end_p (hp : p ≤ T.1) (h : ¬ k_k T p = 0) : p < T.1 ∧ p < k_e T p ∧ k_e T p ≤ T.1 := by
  have b := k_b_le hp
  have e := k_e_le hp
  have nb : ¬ k_b T p = T.1 := fun q => h (by unfold k_k; rw [if_pos q])
  have := k_e_lt hp nb
  omega
end
section
variable {S : z_SH} {I : z_MI} {J : z_MJ} {P : z_MP} {n : Nat × Nat} {T : k_T} {p : Nat}
theorem M_wd2 (hS : z_St S) (k : k_M T p I J) {i : Nat} (hi : i < 18) : f_Mo_isWord 83 (k_w2.getD i 0) (z_h S I J P n) = some (z_b (k_ix T k_w2 p = i), z_h S I J P n) := by
  rw [M_isWord hS k]
  have e := k_i2_iff (T := T) (p := p) hi
  by_cases q : k_ix T k_w2 p = i
  · rw [z_b_t q, z_b_t (e.mpr q)]
  · rw [z_b_f q, z_b_f (fun h => q (e.mp h))]
set_option maxRecDepth 100000 in
set_option maxHeartbeats 4000000 in
theorem M_fact (hS : z_St S) (k : k_M T p I J) : f_Mo_fact 83 (z_h S I J P n) = some ((if k_ix T k_w2 p < 13 then z_n (k_ix T k_w2 p + 1) else z_n 0), z_h S I J P n) := by
  have r21 : q_gi (q_gf (z_h S I J P n) 12 83 21) = some (z_n (k_k T p)) := by rw [z_gi (s_83 hS) rfl, k.2.2.1]
  have kk := @k_k4 T p
  by_cases q : k_k T p = 1
  · have r22 : q_gl' (q_gf (z_h S I J P n) 12 83 22) = some (k_vl T p) := by rw [z_gl (s_83 hS) rfl, k.2.2.2.1 q]
    by_cases ex : k_ix T k_w2 p < 13
    · rw [if_pos ex]
      rw [(k_i2_is (show k_ix T k_w2 p < 18 by omega)).2] at r22
      generalize k_ix T k_w2 p = i at *
      have cs : i = 0 ∨ i = 1 ∨ i = 2 ∨ i = 3 ∨ i = 4 ∨ i = 5 ∨ i = 6 ∨ i = 7 ∨ i = 8 ∨ i = 9 ∨ i = 10 ∨ i = 11 ∨ i = 12 := by omega
      rcases cs with rfl | rfl | rfl | rfl | rfl | rfl | rfl | rfl | rfl | rfl | rfl | rfl | rfl
      · unfold f_Mo_fact; rw [r21, Option.bind_some, q, if_pos (show z_n 1 = (1 : Int32) from rfl), r22, Option.bind_some, if_pos (by decide)]; rfl
      · unfold f_Mo_fact; rw [r21, Option.bind_some, q, if_pos (show z_n 1 = (1 : Int32) from rfl), r22, Option.bind_some, if_neg (by decide), Option.bind_some, if_pos (by decide)]; rfl
      · unfold f_Mo_fact; rw [r21, Option.bind_some, q, if_pos (show z_n 1 = (1 : Int32) from rfl), r22, Option.bind_some, if_neg (by decide), Option.bind_some, if_neg (by decide), Option.bind_some, if_pos (by decide)]; rfl
      · unfold f_Mo_fact; rw [r21, Option.bind_some, q, if_pos (show z_n 1 = (1 : Int32) from rfl), r22, Option.bind_some, if_neg (by decide), Option.bind_some, if_neg (by decide), Option.bind_some, if_neg (by decide), Option.bind_some, if_pos (by decide)]; rfl
      · unfold f_Mo_fact; rw [r21, Option.bind_some, q, if_pos (show z_n 1 = (1 : Int32) from rfl), r22, Option.bind_some, if_neg (by decide), Option.bind_some, if_neg (by decide), Option.bind_some, if_neg (by decide), Option.bind_some, if_neg (by decide), Option.bind_some, if_pos (by decide)]; rfl
      · unfold f_Mo_fact; rw [r21, Option.bind_some, q, if_pos (show z_n 1 = (1 : Int32) from rfl), r22, Option.bind_some, if_neg (by decide), Option.bind_some, if_neg (by decide), Option.bind_some, if_neg (by decide), Option.bind_some, if_neg (by decide), Option.bind_some, if_neg (by decide), Option.bind_some, if_pos (by decide)]; rfl
      · unfold f_Mo_fact; rw [r21, Option.bind_some, q, if_pos (show z_n 1 = (1 : Int32) from rfl), r22, Option.bind_some, if_neg (by decide), Option.bind_some, if_neg (by decide), Option.bind_some, if_neg (by decide), Option.bind_some, if_neg (by decide), Option.bind_some, if_neg (by decide), Option.bind_some, if_neg (by decide), Option.bind_some, if_pos (by decide)]; rfl
      · unfold f_Mo_fact; rw [r21, Option.bind_some, q, if_pos (show z_n 1 = (1 : Int32) from rfl), r22, Option.bind_some, if_neg (by decide), Option.bind_some, if_neg (by decide), Option.bind_some, if_neg (by decide), Option.bind_some, if_neg (by decide), Option.bind_some, if_neg (by decide), Option.bind_some, if_neg (by decide), Option.bind_some, if_neg (by decide), Option.bind_some, if_pos (by decide)]; rfl
      · unfold f_Mo_fact; rw [r21, Option.bind_some, q, if_pos (show z_n 1 = (1 : Int32) from rfl), r22, Option.bind_some, if_neg (by decide), Option.bind_some, if_neg (by decide), Option.bind_some, if_neg (by decide), Option.bind_some, if_neg (by decide), Option.bind_some, if_neg (by decide), Option.bind_some, if_neg (by decide), Option.bind_some, if_neg (by decide), Option.bind_some, if_neg (by decide), Option.bind_some, if_pos (by decide)]; rfl
      · unfold f_Mo_fact; rw [r21, Option.bind_some, q, if_pos (show z_n 1 = (1 : Int32) from rfl), r22, Option.bind_some, if_neg (by decide), Option.bind_some, if_neg (by decide), Option.bind_some, if_neg (by decide), Option.bind_some, if_neg (by decide), Option.bind_some, if_neg (by decide), Option.bind_some, if_neg (by decide), Option.bind_some, if_neg (by decide), Option.bind_some, if_neg (by decide), Option.bind_some, if_neg (by decide), Option.bind_some, if_pos (by decide)]; rfl
      · unfold f_Mo_fact; rw [r21, Option.bind_some, q, if_pos (show z_n 1 = (1 : Int32) from rfl), r22, Option.bind_some, if_neg (by decide), Option.bind_some, if_neg (by decide), Option.bind_some, if_neg (by decide), Option.bind_some, if_neg (by decide), Option.bind_some, if_neg (by decide), Option.bind_some, if_neg (by decide), Option.bind_some, if_neg (by decide), Option.bind_some, if_neg (by decide), Option.bind_some, if_neg (by decide), Option.bind_some, if_neg (by decide), Option.bind_some, if_pos (by decide)]; rfl
      · unfold f_Mo_fact; rw [r21, Option.bind_some, q, if_pos (show z_n 1 = (1 : Int32) from rfl), r22, Option.bind_some, if_neg (by decide), Option.bind_some, if_neg (by decide), Option.bind_some, if_neg (by decide), Option.bind_some, if_neg (by decide), Option.bind_some, if_neg (by decide), Option.bind_some, if_neg (by decide), Option.bind_some, if_neg (by decide), Option.bind_some, if_neg (by decide), Option.bind_some, if_neg (by decide), Option.bind_some, if_neg (by decide), Option.bind_some, if_neg (by decide), Option.bind_some, if_pos (by decide)]; rfl
      · unfold f_Mo_fact; rw [r21, Option.bind_some, q, if_pos (show z_n 1 = (1 : Int32) from rfl), r22, Option.bind_some, if_neg (by decide), Option.bind_some, if_neg (by decide), Option.bind_some, if_neg (by decide), Option.bind_some, if_neg (by decide), Option.bind_some, if_neg (by decide), Option.bind_some, if_neg (by decide), Option.bind_some, if_neg (by decide), Option.bind_some, if_neg (by decide), Option.bind_some, if_neg (by decide), Option.bind_some, if_neg (by decide), Option.bind_some, if_neg (by decide), Option.bind_some, if_neg (by decide), Option.bind_some, if_pos (by decide)]; rfl
    · rw [if_neg ex]
      have no : ∀ i, i < 13 → ¬ k_vl T p = k_w2.getD i 0 := fun i hi e => by
        have := k_i2_w q (show i < 18 by omega) e
        omega
      unfold f_Mo_fact
      rw [r21, Option.bind_some, q, if_pos (show z_n 1 = (1 : Int32) from rfl), r22, Option.bind_some, if_neg (show ¬ k_vl T p = (5146 : Int64) from no 0 (by omega)), Option.bind_some, if_neg (show ¬ k_vl T p = (6094 : Int64) from no 1 (by omega)), Option.bind_some, if_neg (show ¬ k_vl T p = (161614 : Int64) from no 2 (by omega)), Option.bind_some, if_neg (show ¬ k_vl T p = (133743 : Int64) from no 3 (by omega)), Option.bind_some, if_neg (show ¬ k_vl T p = (158523 : Int64) from no 4 (by omega)), Option.bind_some, if_neg (show ¬ k_vl T p = (43823245 : Int64) from no 5 (by omega)), Option.bind_some, if_neg (show ¬ k_vl T p = (1421140441 : Int64) from no 6 (by omega)), Option.bind_some, if_neg (show ¬ k_vl T p = (453117379 : Int64) from no 7 (by omega)), Option.bind_some, if_neg (show ¬ k_vl T p = (385309 : Int64) from no 8 (by omega)), Option.bind_some, if_neg (show ¬ k_vl T p = (7500624643 : Int64) from no 9 (by omega)), Option.bind_some, if_neg (show ¬ k_vl T p = (8659005332 : Int64) from no 10 (by omega)), Option.bind_some, if_neg (show ¬ k_vl T p = (380651 : Int64) from no 11 (by omega)), Option.bind_some, if_neg (show ¬ k_vl T p = (1905275 : Int64) from no 12 (by omega))]
      rfl
  · rw [if_neg (by rw [k_i2_s q]; omega)]
    unfold f_Mo_fact
    rw [r21, Option.bind_some, if_neg (by rw [show (1 : Int32) = z_n 1 from rfl, z_eq (by omega) (by omega)]; exact q)]
    rfl
set_option maxRecDepth 100000 in
set_option maxHeartbeats 4000000 in
theorem M_puts (hS : z_St S) (hP : z_Pt P) {c : Nat} (hc : c < 5000) (h : I 83 39 = z_n c) (x : Int32) : f_Mo_puts 83 x (z_h S I J P n) = some ((), z_h S (z_up (z_up I 107 c x) 83 39 (z_n (c + 1))) J P n) := by
  have g38 : q_gr (q_gf (z_h S I J P n) 12 83 38) = some 107 := z_gr (s_83 hS) rfl (p_83_38 hP)
  have r39 : q_gi (q_gf (z_h S I J P n) 12 83 39) = some (z_n c) := by rw [z_gi (s_83 hS) rfl, h]
  have w107 : q_sa (z_h S I J P n) 20 107 (z_n c) (.int x) = some (z_h S (z_up I 107 c x) J P n) := z_sai (s_107 hS) (by decide) (by omega) (z_rpl hc)
  have r39' : q_gi (q_gf (z_h S (z_up I 107 c x) J P n) 12 83 39) = some (z_n c) := by rw [z_gi (s_83 hS) rfl, z_ups (by decide), h]
  have w39 : ∀ v, q_sf (z_h S (z_up I 107 c x) J P n) 12 83 39 (.int v) = some (z_h S (z_up (z_up I 107 c x) 83 39 v) J P n) := fun _ => z_sfi (s_83 hS) (by decide) rfl
  unfold f_Mo_puts
  rw [g38, Option.bind_some, r39, Option.bind_some, w107, Option.bind_some, r39', Option.bind_some, show (1 : Int32) = z_n 1 from rfl, z_n_add, w39, Option.bind_some]
/-- the class's law reader -/
def y_cl (S : z_SH) (P : z_MP) (r c : Nat) (T : k_T) : Prop := S r = some (11, [2, 2, 2, 0, 0]) ∧ P r 0 = some 9 ∧ P r 1 = some 12 ∧ P r 2 = some c ∧ S c = some (20, List.replicate T.1 0) ∧ 131 ≤ r ∧ 131 ≤ c ∧ r ≠ c
def y_st (I : z_MI) (J : z_MJ) (T : k_T) : Prop := k_cs I ∧ k_hd (I 9 1) (I 10) T ∧ ∀ i, i < 18 → J 12 i = k_w2.getD i 0
def y_cf (r c : Nat) (I : z_MI) (J : z_MJ) (X : z_MI) (Z : z_MJ) : Prop := (∀ a, a ≠ 9 → a ≠ r → a ≠ c → X a = I a) ∧ (∀ a, a ≠ 9 → Z a = J a) ∧ X 9 1 = I 9 1 ∧ ∀ i, i ≠ 3 → X r i = I r i
theorem y_cf.rfl' (r c : Nat) (I : z_MI) (J : z_MJ) : y_cf r c I J I J := ⟨fun _ _ _ _ => rfl, fun _ _ => rfl, rfl, fun _ _ => rfl⟩
theorem y_cf.trans {r c : Nat} {I X Y : z_MI} {J Z W : z_MJ} (h : y_cf r c I J X Z) (g : y_cf r c X Z Y W) : y_cf r c I J Y W :=
  ⟨fun a h1 h2 h3 => (g.1 a h1 h2 h3).trans (h.1 a h1 h2 h3), fun a h1 => (g.2.1 a h1).trans (h.2.1 a h1), g.2.2.1.trans h.2.2.1, fun i hi => (g.2.2.2 i hi).trans (h.2.2.2 i hi)⟩
theorem y_cf.st {r c : Nat} {I X : z_MI} {J Z : z_MJ} (h : y_cf r c I J X Z) (hr : 131 ≤ r) (hc : 131 ≤ c) (s : y_st I J T) : y_st X Z T := by
  obtain ⟨⟨s1, s2⟩, s3, s4⟩ := s
  have e : ∀ a, a < 131 → a ≠ 9 → X a = I a := fun a h1 h2 => h.1 a h2 (by omega) (by omega)
  refine ⟨⟨fun i hi => ?_, ?_⟩, ?_, fun i hi => ?_⟩
  · rw [e 7 (by omega) (by omega)]; exact s1 i hi
  · rw [e 4 (by omega) (by omega)]; exact s2
  · rw [h.2.2.1, e 10 (by omega) (by omega)]; exact s3
  · rw [h.2.1 12 (by omega)]; exact s4 i hi
/-- cc was emitted behind the first z -/
def y_em (r c z : Nat) (cc : List Nat) (I X : z_MI) : Prop := X r 3 = z_n (z + cc.length) ∧ (∀ i, i < z → X c i = I c i) ∧ ∀ i, i < cc.length → X c (z + i) = z_n (cc.getD i 0)
theorem l_gd_l {a b : List Nat} {i : Nat} (h : i < a.length) : (a ++ b).getD i 0 = a.getD i 0 := by
  rw [List.getD_eq_getElem?_getD, List.getD_eq_getElem?_getD, List.getElem?_append_left h]
theorem l_gd_r {a b : List Nat} {i : Nat} (h : a.length ≤ i) : (a ++ b).getD i 0 = b.getD (i - a.length) 0 := by
  rw [List.getD_eq_getElem?_getD, List.getD_eq_getElem?_getD, List.getElem?_append_right h]
theorem y_em.app {r c z : Nat} {a b : List Nat} {I X Y : z_MI} (h : y_em r c z a I X) (g : y_em r c (z + a.length) b X Y) : y_em r c z (a ++ b) I Y := by
  obtain ⟨h1, h2, h3⟩ := h
  obtain ⟨g1, g2, g3⟩ := g
  refine ⟨by rw [g1, List.length_append, Nat.add_assoc], fun i hi => by rw [g2 i (by omega), h2 i hi], fun i hi => ?_⟩
  rw [List.length_append] at hi
  by_cases q : i < a.length
  · rw [g2 _ (by omega), h3 i q, l_gd_l q]
  · rw [show z + i = z + a.length + (i - a.length) by omega, g3 _ (by omega), l_gd_r (by omega)]
theorem y_em.nil {r c z : Nat} {I X : z_MI} (h : X r 3 = z_n z) (e : X c = I c) : y_em r c z [] I X := ⟨h, fun i _ => by rw [e], fun i hi => absurd hi (Nat.not_lt_zero _)⟩
set_option maxRecDepth 100000 in
set_option maxHeartbeats 4000000 in
theorem C_emit {r c z : Nat} (b : y_cl S P r c T) (hT : T.1 ≤ 1000) (hz : I r 3 = z_n z) (zT : z ≤ T.1) (x : Nat) : ∃ X, f_Lr_emit r (z_n x) (z_h S I J P n) = some ((), z_h S X J P n) ∧ y_cf r c I J X J ∧ X 9 = I 9 ∧ (z < T.1 → y_em r c z [x] I X) ∧ ∃ z', z' ≤ T.1 ∧ X r 3 = z_n z' := by
  obtain ⟨b1, b2, b3, b4, b5, b6, b7, b8⟩ := b
  have r3 : q_gi (q_gf (z_h S I J P n) 11 r 3) = some (z_n z) := by rw [z_gi b1 rfl, hz]
  have g2 : q_gr (q_gf (z_h S I J P n) 11 r 2) = some c := z_gr b1 rfl b4
  have ln : q_len' (z_h S I J P n) c = some (z_n T.1) := z_len b5 (by decide) (by rw [List.length_replicate])
  by_cases q : z < T.1
  · have wc : q_sa (z_h S I J P n) 20 c (z_n z) (.int (z_n x)) = some (z_h S (z_up I c z (z_n x)) J P n) := z_sai b5 (by omega) (by omega) (z_rpl q)
    have r3' : q_gi (q_gf (z_h S (z_up I c z (z_n x)) J P n) 11 r 3) = some (z_n z) := by rw [z_gi b1 rfl, z_ups b8, hz]
    have w3 : ∀ v, q_sf (z_h S (z_up I c z (z_n x)) J P n) 11 r 3 (.int v) = some (z_h S (z_up (z_up I c z (z_n x)) r 3 v) J P n) := fun _ => z_sfi b1 (by omega) rfl
    refine ⟨z_up (z_up I c z (z_n x)) r 3 (z_n (z + 1)), ?_, ⟨fun a h1 h2 h3 => by rw [z_ups h2, z_ups h3], fun _ _ => rfl, by rw [z_ups (by omega), z_ups (by omega)], fun i hi => by rw [z_up_i hi, z_ups b8]⟩, by rw [z_ups (by omega), z_ups (by omega)], fun _ => ⟨z_up_s _ _ _ _, fun i hi => ?_, fun i hi => ?_⟩, z + 1, by omega, z_up_s _ _ _ _⟩
    · unfold f_Lr_emit
      rw [r3, Option.bind_some, g2, Option.bind_some, ln, Option.bind_some, if_pos (by rw [z_lt (by omega) (by omega)]; exact q), Option.bind_some, Option.bind_some, wc, Option.bind_some, r3', Option.bind_some, show (1 : Int32) = z_n 1 from rfl, z_n_add, w3, Option.bind_some]
    · rw [z_ups (Ne.symm b8), z_up_i (by omega)]
    · have : i = 0 := by have : [x].length = 1 := rfl
                         omega
      subst this
      rw [z_ups (Ne.symm b8)]
      exact z_up_s _ _ _ _
  · refine ⟨I, ?_, y_cf.rfl' r c I J, rfl, fun h => absurd h q, z, zT, hz⟩
    unfold f_Lr_emit
    rw [r3, Option.bind_some, g2, Option.bind_some, ln, Option.bind_some, if_neg (by rw [z_lt (by omega) (by omega)]; exact q)]
theorem C_isSign_any (hS : z_St S) (x : Int32) : ∃ b, f_Ta_isSign 9 x (z_h S I J P n) = some (b, z_h S I J P n) := by
  have r3 : q_gi (q_gf (z_h S I J P n) 1 9 3) = some (I 9 3) := z_gi (s_9 hS) rfl
  have r5 : q_gl' (q_gf (z_h S I J P n) 1 9 5) = some (J 9 5) := z_gl (s_9 hS) rfl
  unfold f_Ta_isSign
  rw [r3, Option.bind_some]
  split
  · rw [r5, Option.bind_some]
    split <;> exact ⟨_, rfl⟩
  · exact ⟨_, rfl⟩
/-- what the reference's reading of a law leaves as it was -/
def y_mf (I : z_MI) (J : z_MJ) (X : z_MI) (Z : z_MJ) : Prop := (∀ a, a ≠ 83 → a ≠ 107 → a ≠ 108 → a ≠ 109 → X a = I a) ∧ (∀ i, ¬ k_5 i → i ≠ 39 → X 83 i = I 83 i) ∧ (∀ a, a ≠ 83 → Z a = J a) ∧ (∀ i, i ≠ 22 → Z 83 i = J 83 i) ∧ ∀ i, i < 4000 → X 107 i = I 107 i
theorem y_mf.rfl' (I : z_MI) (J : z_MJ) : y_mf I J I J := ⟨fun _ _ _ _ _ => rfl, fun _ _ _ => rfl, fun _ _ => rfl, fun _ _ => rfl, fun _ _ => rfl⟩
theorem y_mf.trans {I X Y : z_MI} {J Z W : z_MJ} (h : y_mf I J X Z) (g : y_mf X Z Y W) : y_mf I J Y W :=
  ⟨fun a h1 h2 h3 h4 => (g.1 a h1 h2 h3 h4).trans (h.1 a h1 h2 h3 h4), fun i h1 h2 => (g.2.1 i h1 h2).trans (h.2.1 i h1 h2), fun a h1 => (g.2.2.1 a h1).trans (h.2.2.1 a h1), fun i hi => (g.2.2.2.1 i hi).trans (h.2.2.2.1 i hi), fun i hi => (g.2.2.2.2 i hi).trans (h.2.2.2.2 i hi)⟩
def y_me (z : Nat) (rc : List Nat) (I X : z_MI) : Prop := X 83 39 = z_n (4000 + z + rc.length) ∧ (∀ i, i < 4000 + z → X 107 i = I 107 i) ∧ ∀ i, i < rc.length → X 107 (4000 + z + i) = z_n (rc.getD i 0)
theorem y_me.app {z : Nat} {a b : List Nat} {I X Y : z_MI} (h : y_me z a I X) (g : y_me (z + a.length) b X Y) : y_me z (a ++ b) I Y := by
  obtain ⟨h1, h2, h3⟩ := h
  obtain ⟨g1, g2, g3⟩ := g
  refine ⟨by rw [g1, List.length_append]; congr 1; omega, fun i hi => by rw [g2 i (by omega), h2 i hi], fun i hi => ?_⟩
  rw [List.length_append] at hi
  by_cases q : i < a.length
  · rw [g2 _ (by omega), h3 i q, l_gd_l q]
  · rw [show 4000 + z + i = 4000 + (z + a.length) + (i - a.length) by omega, g3 _ (by omega), l_gd_r (by omega)]
theorem y_mf.hd {I X : z_MI} {J Z : z_MJ} (h : y_mf I J X Z) (k : k_hd (I 83 18) (I 99) T) : k_hd (X 83 18) (X 99) T := by
  rw [h.2.1 18 (by unfold k_5; omega) (by omega), h.1 99 (by omega) (by omega) (by omega) (by omega)]; exact k
set_option maxRecDepth 100000 in
set_option maxHeartbeats 4000000 in
theorem M_pn (hS : z_St S) (hP : z_Pt P) (hT : k_hd (I 83 18) (I 99) T) (hp : p ≤ T.1) (k : k_M T p I J) {z x : Nat} {Y : z_MI} (h1 : ∀ a, a ≠ 83 → a ≠ 107 → a ≠ 108 → a ≠ 109 → Y a = I a) (h2 : ∀ i, i ≠ 39 → Y 83 i = I 83 i) (h3 : Y 83 39 = z_n (4000 + z + 1)) (h4 : Y 107 (4000 + z) = z_n x) (h5 : ∀ i, i ≠ 4000 + z → Y 107 i = I 107 i) :
    ∃ X Z, f_Mo_nextToken 83 (z_h S Y J P n) = some ((), z_h S X Z P n) ∧ y_mf I J X Z ∧ k_M T (k_e T p) X Z ∧ y_me z [x] I X ∧ X 108 = Y 108 ∧ X 109 = Y 109 := by
  obtain ⟨X, Z, a1, a2, a3, a4, a5, a6⟩ := M_next (I := Y) (J := J) (n := n) hS hP (T := T) (by rw [h2 18 (by omega), h1 99 (by omega) (by omega) (by omega) (by omega)]; exact hT) (p := k_e T p) (k_e_le hp).2 (by rw [h2 19 (by omega)]; exact k.1)
  refine ⟨X, Z, a1, ⟨fun a q1 q2 q3 q4 => by rw [a2 a q1, h1 a q1 q2 q3 q4], fun i q1 q2 => ?_, a4, a5, fun i hi => by rw [a2 107 (by omega), h5 i (by omega)]⟩, a6, ⟨?_, fun i hi => by rw [a2 107 (by omega), h5 i (by omega)], fun i hi => ?_⟩, a2 108 (by omega), a2 109 (by omega)⟩
  · unfold k_5 at q1
    rw [a3 i (by omega) (by omega) (by omega) (by omega), h2 i q2]
  · rw [a3 39 (by omega) (by omega) (by omega) (by omega), h3]
    rfl
  · have : i = 0 := by have : [x].length = 1 := rfl
                       omega
    subst this
    rw [a2 107 (by omega)]
    exact h4
end
