/-! ONE HOUSES: the class: refresh. -/
def h_lt (I : z_MI) (J : z_MJ) (r : Nat → Nat) (s t w x : Nat) : Nat := if r s = r t ∧ I 88 s < I 88 t ∧ z_th I s = true ∧ z_th I t = true then z_sum (z_ln I t) (h_lf I J s t w x) else 0
def h_full (I : z_MI) (J : z_MJ) (X : z_MI) : Prop := (∀ j, j < 24 → X 23 j = z_n (h_rc I J 24 j)) ∧ h_kn I J (fun _ _ => 24) X ∧ ∀ j, j < 96 → X 26 j = z_n (z_sum 24 fun t => h_lt I J (h_rc I J 24) (j / 4) t (j % 4 / 2) (j % 2))
def h_ok (I : z_MI) (J : z_MJ) : Prop := (I 22 0 = z_n 0 ∧ h_full I J I) ∨ I 22 0 = z_n 1
section
variable {S : z_SH} {I I' X : z_MI} {J J' : z_MJ} {P : z_MP} {K : Nat → Bool} {n : Nat × Nat}
theorem h_lf_c (h : z_cg I J I' J') (s t w x i : Nat) : h_lf I' J' s t w x i = h_lf I J s t w x i := by
  unfold h_lf h_yr
  rw [h_kl_c h, h_kf_c h, z_Ds_c h, z_Ds_c h, h_on_c h, z_ln_c h, h.i _ rfl, h.i _ rfl]
theorem h_lt_c (h : z_cg I J I' J') (r : Nat → Nat) (s t w x : Nat) : h_lt I' J' r s t w x = h_lt I J r s t w x := by
  unfold h_lt
  rw [z_th_c h, z_th_c h, z_ln_c h, h.i _ rfl, h.i _ rfl, z_sum_eq (fun i _ => h_lf_c h s t w x i)]
theorem h_rc_c (h : z_cg I J I' J') (s : Nat) : h_rc I' J' s = h_rc I J s := by
  unfold h_rc
  rw [show h_nj I' J' = h_nj I J from by funext a b; exact h_nj_c h a b]
theorem h_full_c (h : z_cg I J I' J') (f : h_full I J X) : h_full I' J' X := by
  obtain ⟨f1, f2, f3⟩ := f
  refine ⟨fun j hj => by rw [h_rc_c h]; exact f1 j hj, fun u a hu hth ha => ?_, fun j hj => ?_⟩
  · rw [z_th_c h] at hth
    rw [z_ln_c h] at ha
    rw [h_kf_c h, h_kl_c h]; exact f2 u a hu hth ha
  · rw [h_rc_c h, z_sum_eq (fun t _ => h_lt_c h _ _ _ _ _)]; exact f3 j hj
theorem h_RR (I : z_MI) (J : z_MJ) : h_R (z_th I) (I 87) (h_rc I J 24) (h_ou (h_ms (h_nj I J)) 24) := by
  have h : ∀ s, s ≤ 24 → h_R (z_th I) (I 87) (h_ou (h_rs (h_nj I J)) s) (h_ou (h_ms (h_nj I J)) s) := fun s hs => h_R.ou (th := z_th I) (vt := I 87) (nj := h_nj I J) (fun _ _ => h_nj_th) s hs
  unfold h_rc
  exact h 24 (by decide)
theorem h_rv {s t : Nat} (hs : s < 24) (ht : t < 24) (e : h_rc I J 24 s = h_rc I J 24 t) : I 87 s = I 87 t := by
  have h := (h_RR I J).1.1
  have h1 := (h s hs).2.2.2
  have h2 := (h t ht).2.2.2
  rw [← h1, ← h2, e]
set_option maxRecDepth 100000 in
set_option maxHeartbeats 4000000 in
theorem C_seek (B : z_B S I J P K n.1) (hX : ∀ a, (a < 22 ∨ 26 < a) → X a = I a) {s t : Nat} {b : Nat → Nat} (hs : s < 24) (ht : t < 24) (sh : z_th I s = true → z_th I t = true → h_sh I t s = true) (hk : h_kn I J (fun _ _ => 24) X) (hb : ∀ j, j < 96 → X 26 j = z_n (b j)) : ∃ Y, f_Ho_seekLeftOut 22 13 (z_n s) (z_n t) (z_h S X J P n) = some ((), z_h S Y J P n) ∧ (∀ a, a ≠ 26 → Y a = X a) ∧ ∀ j, j < 96 → Y 26 j = z_n (b j + if j / 4 = s ∧ z_th I s = true ∧ z_th I t = true then z_sum (z_ln I t) (h_lf I J s t (j % 4 / 2) (j % 2)) else 0) := by
  have hS := B.qS
  have hP := B.qP
  have hob := fun I J => z_ob (I := I) (J := J) (P := P) (n := n) (s_13 hS)
  have p1 := C_pageOf (I := X) (J := J) (n := n) hS hP hs
  have p2 := C_pageOf (I := X) (J := J) (n := n) hS hP ht
  have yr : f_Sf_yearOf 13 (z_n s) (z_h S X J P n) = some (h_yr I s, z_h S X J P n) := by
    have e := h_16 B hX hs
    simp (disch := omega) only [f_Sf_yearOf, z_Shr hS hP, e, h_yr, or_true, true_or, or_false, false_or, z_b_T, z_b_F, Bool.false_eq_true, Classical.not_not, decide_eq_true_eq, z_sq, Option.bind_some, z_lits, z_n_add, z_n_mul, z_lt, z_le, z_eq, z_ne1, z_1ne, z_lt1, z_1lt, z_ltT, z_ltF, z_leT, z_leF, z_eqF, z_b_0, z_b_1, ↓reduceIte, eq_self, not_true_eq_false, not_false_eq_true, and_true, true_and, and_false, false_and, Nat.add_zero, Nat.zero_add]
  by_cases h1 : z_th I s = true
  · obtain ⟨p, a1, a2, a3⟩ := h_pg B hX hs h1
    by_cases h2 : z_th I t = true
    · obtain ⟨q, b1, b2, b3⟩ := h_pg B hX ht h2
      have pp : 131 ≤ p ∧ 131 ≤ q := by
        refine ⟨?_, ?_⟩
        · rcases B.pg hs with ⟨h1', h2⟩ | ⟨h1, q, h2, h3⟩
          · rw [h1] at h1'; cases h1'
          · rw [h2] at a1; cases a1; exact h3.1.1
        · rcases B.pg ht with ⟨h1', h2'⟩ | ⟨h1, q, h2, h3⟩
          · rw [h2] at h1'; cases h1'
          · rw [h2] at b1; cases b1; exact h3.1.1
      obtain ⟨Y, c1, c2, c3⟩ := C_seek35 (n := n) B hX hs ht (sh h1 h2) a2 b2 pp a3 b3 hk hb
      refine ⟨Y, ?_, c2, fun j hj => ?_⟩
      · unfold f_Ho_seekLeftOut
        rw [hob, Option.bind_some, p1, z_sq, hob, Option.bind_some, p2, z_sq, a1, b1]
        simp only
        rw [hob, Option.bind_some, yr, z_sq, show (0 : Int32) = z_n 0 from rfl, c1, z_sq]
      · rw [c3 j hj]
        by_cases e : j / 4 = s
        · rw [if_pos e, if_pos ⟨e, h1, h2⟩]
        · rw [if_neg e, if_neg (fun q => e q.1)]
    · refine ⟨X, ?_, fun _ _ => rfl, fun j hj => by rw [if_neg (fun q => h2 q.2.2), Nat.add_zero]; exact hb j hj⟩
      unfold f_Ho_seekLeftOut
      rw [hob, Option.bind_some, p1, z_sq, hob, Option.bind_some, p2, z_sq, a1, h_pn B ht h2]
  · refine ⟨X, ?_, fun _ _ => rfl, fun j hj => by rw [if_neg (fun q => h1 q.2.1), Nat.add_zero]; exact hb j hj⟩
    unfold f_Ho_seekLeftOut
    rw [hob, Option.bind_some, p1, z_sq, hob, Option.bind_some, p2, z_sq, h_pn B hs h1]
set_option maxRecDepth 100000 in
set_option maxHeartbeats 4000000 in
theorem C_ref90 (B : z_B S I J P K n.1) (hX : ∀ a, (a < 22 ∨ 26 < a) → X a = I a) {s : Nat} {b : Nat → Nat} (hs : s < 24) (hr : ∀ j, j < 24 → X 23 j = z_n (h_rc I J 24 j)) (hk : h_kn I J (fun _ _ => 24) X) (hb : ∀ j, j < 96 → X 26 j = z_n (b j)) : ∃ Y, f_Ho_refresh_L90 22 13 (z_n s) q_FU (z_n 0) (z_h S X J P n) = some ((), z_h S Y J P n) ∧ (∀ a, a ≠ 26 → Y a = X a) ∧ ∀ j, j < 96 → Y 26 j = z_n (b j + if j / 4 = s then z_sum 24 (fun t => h_lt I J (h_rc I J 24) s t (j % 4 / 2) (j % 2)) else 0) := by
  have hS := B.qS
  have hP := B.qP
  have hob := fun I J => z_ob (I := I) (J := J) (P := P) (n := n) (s_22 hS)
  have rl := fun j hj => ((h_RR I J).1.1 j hj).1
  exact z_runI (fun m t (Y : z_MI) => f_Ho_refresh_L90 22 13 (z_n s) m (z_n t) (z_h S Y J P n)) 24
    (fun t Y => (∀ a, a ≠ 26 → Y a = X a) ∧ ∀ j, j < 96 → Y 26 j = z_n (b j + if j / 4 = s then z_sum t (fun t => h_lt I J (h_rc I J 24) s t (j % 4 / 2) (j % 2)) else 0))
    (fun q => ∃ Y, q = some ((), z_h S Y J P n) ∧ (∀ a, a ≠ 26 → Y a = X a) ∧ ∀ j, j < 96 → Y 26 j = z_n (b j + if j / 4 = s then z_sum 24 (fun t => h_lt I J (h_rc I J 24) s t (j % 4 / 2) (j % 2)) else 0)) (by omega)
    (by
      intro m t Y ht ⟨q1, q2⟩
      have hY : ∀ a, (a < 22 ∨ 26 < a) → Y a = I a := fun a ha => (q1 a (by omega)).trans (hX a ha)
      have e1 : Y 23 s = z_n (h_rc I J 24 s) := by rw [q1 23 (by decide)]; exact hr s hs
      have e2 : Y 23 t = z_n (h_rc I J 24 t) := by rw [q1 23 (by decide)]; exact hr t ht
      have e3 := h_16 B hY hs
      have e4 := h_16 B hY ht
      have r1 := rl s hs
      have r2 := rl t ht
      have no : (¬ (h_rc I J 24 s = h_rc I J 24 t ∧ I 88 s < I 88 t)) → ∀ j, j < 96 → Y 26 j = z_n (b j + if j / 4 = s then z_sum (t + 1) (fun t => h_lt I J (h_rc I J 24) s t (j % 4 / 2) (j % 2)) else 0) := by
        intro g j hj
        have e : h_lt I J (h_rc I J 24) s t (j % 4 / 2) (j % 2) = 0 := if_neg (fun q => g ⟨q.1, q.2.1⟩)
        rw [q2 j hj, z_sum_s, e, Nat.add_zero]
      by_cases c1 : h_rc I J 24 s = h_rc I J 24 t
      · by_cases c2 : I 88 s < I 88 t
        · have sh : z_th I s = true → z_th I t = true → h_sh I t s = true := by
            intro k1 k2
            rw [h_sh_i]
            refine ⟨k2, k1, (h_rv hs ht c1).symm, fun e => ?_⟩
            rw [e] at c2
            exact Int32.lt_irrefl c2
          obtain ⟨Z, a1, a2, a3⟩ := C_seek (n := n) B hY hs ht sh (fun u a hu hth ha => by rw [q1 24 (by decide), q1 25 (by decide)]; exact hk u a hu hth ha) q2
          refine ⟨Z, ⟨fun a ha => (a2 a ha).trans (q1 a ha), fun j hj => ?_⟩, ?_⟩
          · rw [a3 j hj]
            by_cases e : j / 4 = s
            · rw [if_pos e, if_pos e, z_sum_s, Nat.add_assoc]
              congr 3
              unfold h_lt
              by_cases k : z_th I s = true ∧ z_th I t = true
              · rw [if_pos ⟨e, k⟩, if_pos ⟨c1, c2, k⟩]
              · rw [if_neg (fun q => k q.2), if_neg (fun q => k q.2.2)]
            · rw [if_neg e, if_neg e, if_neg (fun q => e q.1), Nat.add_zero]
          · have c2' := eq_true c2
            simp (disch := omega) only [f_Ho_refresh_L90, ht, e1, e2, c1, e3, e4, c2', z_Hor hS hP, z_Shr hS hP, hob, a1, or_true, true_or, or_false, false_or, z_b_T, z_b_F, Bool.false_eq_true, Classical.not_not, decide_eq_true_eq, z_sq, Option.bind_some, z_lits, z_n_add, z_n_mul, z_lt, z_le, z_eq, z_ne1, z_1ne, z_lt1, z_1lt, z_ltT, z_ltF, z_leT, z_leF, z_eqF, z_b_0, z_b_1, ↓reduceIte, eq_self, not_true_eq_false, not_false_eq_true, and_true, true_and, and_false, false_and, Nat.add_zero, Nat.zero_add]
        · have c2' := eq_false c2
          refine ⟨Y, ⟨q1, no (fun g => c2 g.2)⟩, ?_⟩
          simp (disch := omega) only [f_Ho_refresh_L90, ht, e1, e2, c1, e3, e4, c2', z_Hor hS hP, z_Shr hS hP, or_true, true_or, or_false, false_or, z_b_T, z_b_F, Bool.false_eq_true, Classical.not_not, decide_eq_true_eq, z_sq, Option.bind_some, z_lits, z_n_add, z_n_mul, z_lt, z_le, z_eq, z_ne1, z_1ne, z_lt1, z_1lt, z_ltT, z_ltF, z_leT, z_leF, z_eqF, z_b_0, z_b_1, ↓reduceIte, eq_self, not_true_eq_false, not_false_eq_true, and_true, true_and, and_false, false_and, Nat.add_zero, Nat.zero_add]
      · refine ⟨Y, ⟨q1, no (fun g => c1 g.1)⟩, ?_⟩
        simp (disch := omega) only [f_Ho_refresh_L90, ht, e1, e2, c1, z_Hor hS hP, z_Shr hS hP, or_true, true_or, or_false, false_or, z_b_T, z_b_F, Bool.false_eq_true, Classical.not_not, decide_eq_true_eq, z_sq, Option.bind_some, z_lits, z_n_add, z_n_mul, z_lt, z_le, z_eq, z_ne1, z_1ne, z_lt1, z_1lt, z_ltT, z_ltF, z_leT, z_leF, z_eqF, z_b_0, z_b_1, ↓reduceIte, eq_self, not_true_eq_false, not_false_eq_true, and_true, true_and, and_false, false_and, Nat.add_zero, Nat.zero_add])
    (by
      intro m Y ⟨q1, q2⟩
      refine ⟨Y, ?_, q1, q2⟩
      simp (disch := omega) only [f_Ho_refresh_L90, Nat.lt_irrefl, or_true, true_or, or_false, false_or, z_b_T, z_b_F, Bool.false_eq_true, Classical.not_not, decide_eq_true_eq, z_sq, Option.bind_some, z_lits, z_n_add, z_n_mul, z_lt, z_le, z_eq, z_ne1, z_1ne, z_lt1, z_1lt, z_ltT, z_ltF, z_leT, z_leF, z_eqF, z_b_0, z_b_1, ↓reduceIte, eq_self, not_true_eq_false, not_false_eq_true, and_true, true_and, and_false, false_and, Nat.add_zero, Nat.zero_add])
    (x := X) ⟨fun _ _ => rfl, fun j hj => by rw [z_sum_0, ite_self, Nat.add_zero]; exact hb j hj⟩
set_option maxRecDepth 100000 in
set_option maxHeartbeats 4000000 in
theorem C_ref82 (B : z_B S I J P K n.1) (hX : ∀ a, (a < 22 ∨ 26 < a) → X a = I a) (hr : ∀ j, j < 24 → X 23 j = z_n (h_rc I J 24 j)) (hk : h_kn I J (fun _ _ => 24) X) (hb : ∀ j, j < 96 → X 26 j = z_n 0) : ∃ Y, f_Ho_refresh_L82 22 13 q_FU (z_n 0) (z_h S X J P n) = some ((), z_h S Y J P n) ∧ (∀ a, a ≠ 26 → Y a = X a) ∧ ∀ j, j < 96 → Y 26 j = z_n (z_sum 24 fun t => h_lt I J (h_rc I J 24) (j / 4) t (j % 4 / 2) (j % 2)) := by
  exact z_runI (fun m s (Y : z_MI) => f_Ho_refresh_L82 22 13 m (z_n s) (z_h S Y J P n)) 24
    (fun s Y => (∀ a, a ≠ 26 → Y a = X a) ∧ ∀ j, j < 96 → Y 26 j = z_n (if j / 4 < s then z_sum 24 (fun t => h_lt I J (h_rc I J 24) (j / 4) t (j % 4 / 2) (j % 2)) else 0))
    (fun q => ∃ Y, q = some ((), z_h S Y J P n) ∧ (∀ a, a ≠ 26 → Y a = X a) ∧ ∀ j, j < 96 → Y 26 j = z_n (z_sum 24 fun t => h_lt I J (h_rc I J 24) (j / 4) t (j % 4 / 2) (j % 2))) (by omega)
    (by
      intro m s Y hs ⟨q1, q2⟩
      have hY : ∀ a, (a < 22 ∨ 26 < a) → Y a = I a := fun a ha => (q1 a (by omega)).trans (hX a ha)
      obtain ⟨Z, a1, a2, a3⟩ := C_ref90 (n := n) B hY hs (fun j hj => by rw [q1 23 (by decide)]; exact hr j hj) (fun u a hu hth ha => by rw [q1 24 (by decide), q1 25 (by decide)]; exact hk u a hu hth ha) q2
      refine ⟨Z, ⟨fun a ha => (a2 a ha).trans (q1 a ha), fun j hj => ?_⟩, ?_⟩
      · rw [a3 j hj]
        by_cases e : j / 4 = s
        · rw [if_pos e, if_neg (by omega), if_pos (by omega), Nat.zero_add, e]
        · rw [if_neg e, Nat.add_zero]
          by_cases e2 : j / 4 < s
          · rw [if_pos e2, if_pos (by omega)]
          · rw [if_neg e2, if_neg (by omega)]
      · simp (disch := omega) only [f_Ho_refresh_L82, hs, a1, or_true, true_or, or_false, false_or, z_b_T, z_b_F, Bool.false_eq_true, Classical.not_not, decide_eq_true_eq, z_sq, Option.bind_some, z_lits, z_n_add, z_n_mul, z_lt, z_le, z_eq, z_ne1, z_1ne, z_lt1, z_1lt, z_ltT, z_ltF, z_leT, z_leF, z_eqF, z_b_0, z_b_1, ↓reduceIte, eq_self, not_true_eq_false, not_false_eq_true, and_true, true_and, and_false, false_and, Nat.add_zero, Nat.zero_add])
    (by
      intro m Y ⟨q1, q2⟩
      refine ⟨Y, ?_, q1, fun j hj => by rw [q2 j hj, if_pos (by omega)]⟩
      simp (disch := omega) only [f_Ho_refresh_L82, Nat.lt_irrefl, or_true, true_or, or_false, false_or, z_b_T, z_b_F, Bool.false_eq_true, Classical.not_not, decide_eq_true_eq, z_sq, Option.bind_some, z_lits, z_n_add, z_n_mul, z_lt, z_le, z_eq, z_ne1, z_1ne, z_lt1, z_1lt, z_ltT, z_ltF, z_leT, z_leF, z_eqF, z_b_0, z_b_1, ↓reduceIte, eq_self, not_true_eq_false, not_false_eq_true, and_true, true_and, and_false, false_and, Nat.add_zero, Nat.zero_add])
    (x := X) ⟨fun _ _ => rfl, fun j hj => by rw [if_neg (Nat.not_lt_zero _)]; exact hb j hj⟩
set_option maxRecDepth 100000 in
set_option maxHeartbeats 4000000 in
theorem C_refresh (B : z_B S I J P K n.1) (ho : h_ok I J) : ∃ Y, f_Ho_refresh 22 13 (z_h S I J P n) = some ((), z_h S Y J P n) ∧ (∀ a, (a < 22 ∨ 26 < a) → Y a = I a) ∧ Y 22 0 = z_n 0 ∧ h_full I J Y := by
  have hS := B.qS
  have hP := B.qP
  rcases ho with ⟨h1, h2⟩ | h1
  · refine ⟨I, ?_, fun _ _ => rfl, h1, h2⟩
    simp (disch := omega) only [f_Ho_refresh, z_Hor hS hP, h1, or_true, true_or, or_false, false_or, z_b_T, z_b_F, Bool.false_eq_true, Classical.not_not, decide_eq_true_eq, z_sq, Option.bind_some, z_lits, z_n_add, z_n_mul, z_lt, z_le, z_eq, z_ne1, z_1ne, z_lt1, z_1lt, z_ltT, z_ltF, z_leT, z_leF, z_eqF, z_b_0, z_b_1, ↓reduceIte, eq_self, not_true_eq_false, not_false_eq_true, and_true, true_and, and_false, false_and, Nat.add_zero, Nat.zero_add]
  · have h0 : ∀ a, (a < 22 ∨ 26 < a) → z_up I 22 0 (z_n 0) a = I a := fun a ha => z_up_r (by omega)
    obtain ⟨A, a1, a2, a3, a4, a5⟩ := C_ref15 (n := n) B h0
    have hA : ∀ a, (a < 22 ∨ 26 < a) → A a = I a := fun a ha => (a2 a (by omega)).trans (h0 a ha)
    obtain ⟨A', b1, b2, b3, b4⟩ := C_ref35 (n := n) B hA a3 a5
    have hA' : ∀ a, (a < 22 ∨ 26 < a) → A' a = I a := fun a ha => (b2 a (by omega)).trans (hA a ha)
    obtain ⟨Y, c1, c2, c3⟩ := C_ref82 (n := n) B hA' b3 b4 (fun j hj => by rw [b2 26 (by decide)]; exact a4 j hj)
    refine ⟨Y, ?_, fun a ha => (c2 a (by omega)).trans (hA' a ha), ?_, fun j hj => by rw [c2 23 (by decide)]; exact b3 j hj, fun u a hu hth ha => by rw [c2 24 (by decide), c2 25 (by decide)]; exact b4 u a hu hth ha, c3⟩
    · simp (disch := omega) only [f_Ho_refresh, z_Hor hS hP, z_How hS, h1, a1, b1, c1, or_true, true_or, or_false, false_or, z_b_T, z_b_F, Bool.false_eq_true, Classical.not_not, decide_eq_true_eq, z_sq, Option.bind_some, z_lits, z_n_add, z_n_mul, z_lt, z_le, z_eq, z_ne1, z_1ne, z_lt1, z_1lt, z_ltT, z_ltF, z_leT, z_leF, z_eqF, z_b_0, z_b_1, ↓reduceIte, eq_self, not_true_eq_false, not_false_eq_true, and_true, true_and, and_false, false_and, Nat.add_zero, Nat.zero_add]
    · rw [c2 22 (by decide), b2 22 (by decide), a2 22 (by decide), z_up_s]
end
