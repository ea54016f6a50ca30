/-! READ: the page is settled: the loop. -/
section
variable {S : z_SH} {I : z_MI} {J : z_MJ} {P : z_MP} {K : Nat → Bool} {n : Nat × Nat} {g : Nat} {D : z_D}
/-- settled so far -/
def k_se (I : z_MI) (g : Nat) (D : z_D) (i : Nat) (X : z_MI) : Prop := (∀ a, a ≠ g + 9 → a ≠ g + 10 → a ≠ g + 12 → X a = I a) ∧
  (∀ l, l < i → X (g + 9) l = (if d_wf D l = true then z_n (d_so D l) else -z_n 1) ∧ X (g + 10) l = (if d_wf D l = true ∧ (d_so D l = 0 ∨ d_so D l = 2) then z_n (d_tk D l) else -z_n 1)) ∧
  ∀ q t, q < 5 → t < 3 → X (g + 12) (q * 3 + t) = z_n (z_sum i (d_in D q t))
set_option maxRecDepth 100000 in
set_option maxHeartbeats 4000000 in
theorem C_settleS (h : z_ps S P g) (hg : 131 ≤ g) (hd : z_pd I J g D) (hD : d_ok D) {i : Nat} (hi : i < D.1) {X : z_MI} (se : k_se I g D i X) (m : Nat) : ∃ X', k_se I g D (i + 1) X' ∧ f_Pa_settle_L2 g (m + 1) (z_n i) (z_h S X J P n) = f_Pa_settle_L2 g m (z_n (i + 1)) (z_h S X' J P n) := by
  obtain ⟨s1, s2, s3⟩ := se
  have h12 := hD.1
  have rp := z_ps_r h
  have pdX : ∀ Y : z_MI, (∀ a, a ≠ g + 9 → a ≠ g + 10 → a ≠ g + 12 → Y a = I a) → z_pd Y J g D := fun Y e => k_pd hd (fun l hl k h1 h2 => ⟨by rw [e _ (by omega) (by omega) (by omega)], rfl⟩) (by rw [e _ (by omega) (by omega) (by omega)])
  have w9 := fun I J v => z_sai (I := I) (J := J) (P := P) (n := n) (v := v) (h.2.2.2.2.1 9 (by omega) (by omega)) (by omega) (show i < 2147483648 by omega) (z_rpl (by omega))
  have w10 := fun I J v => z_sai (I := I) (J := J) (P := P) (n := n) (v := v) (h.2.2.2.2.1 10 (by omega) (by omega)) (by omega) (show i < 2147483648 by omega) (z_rpl (by omega))
  have hl : ∀ l, l < i → l ≠ i := fun l hl => by omega
  have i12 : i < 12 := by omega
  by_cases w : d_wf D i = true
  · obtain ⟨e2, hb⟩ := d_wf_hb hD hi w
    have so4 := d_so_le D i
    have tk2 := d_tk_le D i
    -- after the two rows are NONE
    have k1 : ∀ a, a ≠ g + 9 → a ≠ g + 10 → a ≠ g + 12 → z_up (z_up X (g + 9) i (-z_n 1)) (g + 10) i (-z_n 1) a = I a := fun a h1 h2 h3 => by rw [z_ups h2, z_ups h1, s1 a h1 h2 h3]
    have pd1 := pdX _ k1
    have hs := C_has (J := J) (n := n) (l := d_hb D i) h pd1.sz h12 (by omega)
    rw [z_b_t hb] at hs
    have so := C_sortOf (n := n) h pd1 hD hi w
    have k2 : ∀ a, a ≠ g + 9 → a ≠ g + 10 → a ≠ g + 12 → z_up (z_up (z_up X (g + 9) i (-z_n 1)) (g + 10) i (-z_n 1)) (g + 9) i (z_n (d_so D i)) a = I a := fun a h1 h2 h3 => by rw [z_ups h1, k1 a h1 h2 h3]
    have pd2 := pdX _ k2
    have ad := C_adopted (n := n) h pd2 hD hi w (z_up_s _ _ _ _)
    have r7 := pd1.w hi
    rw [e2] at r7
    have r7' := pd2.w hi
    rw [e2] at r7'
    have o8 := fun I J => z_ob (I := I) (J := J) (P := P) (n := n) h.1
    have o9 := fun I J => z_ob (I := I) (J := J) (P := P) (n := n) h.2.2.2.2.2.1
    have sz := (pdX X s1).sz
    have pos : (if z_n 0 < (if d_so D i = 0 ∨ d_so D i = 2 then z_n (d_tk D i) else -z_n 1) then (if d_so D i = 0 ∨ d_so D i = 2 then z_n (d_tk D i) else -z_n 1) else z_n 0) = z_n (d_tk D i) := by
      by_cases q : d_so D i = 0 ∨ d_so D i = 2
      · rw [if_pos q]
        by_cases q0 : d_tk D i = 0
        · rw [q0]; rfl
        · rw [if_pos (by rw [z_lt (by omega) (by omega)]; omega)]
      · rw [if_neg q, if_neg (by decide)]
        have : d_tk D i = 0 := by unfold d_tk; rw [if_neg q]
        rw [this]
    have t15 : d_so D i * 3 + d_tk D i < 15 := by omega
    generalize hv : (if d_so D i = 0 ∨ d_so D i = 2 then z_n (d_tk D i) else -z_n 1) = av at *
    have w12 := fun I J v => z_sai (I := I) (J := J) (P := P) (n := n) (v := v) h.2.2.2.2.2.2.2 (show 8 ≤ g + 12 by omega) (show d_so D i * 3 + d_tk D i < 2147483648 by omega) (z_rpl t15)
    have r12 := s3 (d_so D i) (d_tk D i) (by omega) (by omega)
    have x9 : z_up (z_up (z_up (z_up X (g + 9) i (-z_n 1)) (g + 10) i (-z_n 1)) (g + 9) i (z_n (d_so D i))) (g + 10) i av (g + 9) i = z_n (d_so D i) := by rw [z_up_a (by omega), z_up_s]
    have x10 : z_up (z_up (z_up (z_up X (g + 9) i (-z_n 1)) (g + 10) i (-z_n 1)) (g + 9) i (z_n (d_so D i))) (g + 10) i av (g + 10) i = av := z_up_s _ _ _ _
    have x12 : z_up (z_up (z_up (z_up X (g + 9) i (-z_n 1)) (g + 10) i (-z_n 1)) (g + 9) i (z_n (d_so D i))) (g + 10) i av (g + 12) = X (g + 12) := by rw [z_ups (by omega), z_ups (by omega), z_ups (by omega), z_ups (by omega)]
    have k3 : ∀ a, a ≠ g + 9 → a ≠ g + 10 → z_up (z_up (z_up (z_up X (g + 9) i (-z_n 1)) (g + 10) i (-z_n 1)) (g + 9) i (z_n (d_so D i))) (g + 10) i av a = X a := fun a h1 h2 => by rw [z_ups h2, z_ups h1, z_ups h2, z_ups h1]
    have k4 : ∀ l, l ≠ i → z_up (z_up (z_up (z_up X (g + 9) i (-z_n 1)) (g + 10) i (-z_n 1)) (g + 9) i (z_n (d_so D i))) (g + 10) i av (g + 9) l = X (g + 9) l ∧ z_up (z_up (z_up (z_up X (g + 9) i (-z_n 1)) (g + 10) i (-z_n 1)) (g + 9) i (z_n (d_so D i))) (g + 10) i av (g + 10) l = X (g + 10) l := fun l hl => ⟨by rw [z_up_i hl, z_up_i hl, z_up_i hl, z_up_i hl], by rw [z_up_i hl, z_up_i hl, z_up_i hl, z_up_i hl]⟩
    refine ⟨z_up (z_up (z_up (z_up (z_up X (g + 9) i (-z_n 1)) (g + 10) i (-z_n 1)) (g + 9) i (z_n (d_so D i))) (g + 10) i av) (g + 12) (d_so D i * 3 + d_tk D i) (z_n (z_sum i (d_in D (d_so D i) (d_tk D i)) + 1)), ⟨fun a h1 h2 h3 => ?_, fun l hl => ?_, fun q t hq ht => ?_⟩, ?_⟩
    · rw [z_ups h3, k3 a h1 h2]; exact s1 a h1 h2 h3
    · rw [z_up_a (a := g + 12) (b := g + 9) (by omega), z_up_a (a := g + 12) (b := g + 10) (by omega)]
      by_cases e : l = i
      · subst e
        rw [x9, x10, if_pos w]
        refine ⟨rfl, ?_⟩
        rw [← hv]
        by_cases q : d_so D l = 0 ∨ d_so D l = 2
        · rw [if_pos q, if_pos ⟨w, q⟩]
        · rw [if_neg q, if_neg (fun e => q e.2)]
      · rw [(k4 l e).1, (k4 l e).2]
        exact s2 l (by omega)
    · rw [z_up_e, z_sum_s]
      have ein : d_in D q t i = if d_so D i = q ∧ d_tk D i = t then 1 else 0 := by
        unfold d_in
        by_cases e : d_so D i = q ∧ d_tk D i = t
        · rw [if_pos ⟨w, e⟩, if_pos e]
        · rw [if_neg (fun x => e x.2), if_neg e]
      rw [ein, x12]
      by_cases e : d_so D i = q ∧ d_tk D i = t
      · rw [if_pos e, ← e.1, ← e.2, if_pos rfl]
      · rw [if_neg e, if_neg (by omega), Nat.add_zero]
        exact s3 q t hq ht
    · generalize hX1 : z_up (z_up X (g + 9) i (-z_n 1)) (g + 10) i (-z_n 1) = X1 at *
      generalize hX2 : z_up X1 (g + 9) i (z_n (d_so D i)) = X2 at *
      generalize hX3 : z_up X2 (g + 10) i av = X3 at *
      generalize z_sum i (d_in D (d_so D i) (d_tk D i)) = su at *
      generalize d_so D i = so' at *
      generalize d_tk D i = tk' at *
      generalize d_hb D i = hb' at *
      simp (disch := omega) only [f_Pa_settle_L2, f_Ty_put, rp, sz, hi, w9, w10, hX1, r7, o8, hs, so, hX2, r7', ad, hX3, x9, x10, x12, r12, o9, pos, w12, or_true, true_or, or_false, false_or, z_b_T, z_b_F, Bool.false_eq_true, Classical.not_not, decide_eq_true_eq, z_sq, Option.bind_some, z_lits, z_n_add, z_n_mul, z_lt, z_le, z_eq, z_ne1, z_1ne, z_lt1, z_1lt, z_ltT, z_ltF, z_leT, z_leF, z_eqF, z_b_0, z_b_1, ↓reduceIte, eq_self, not_true_eq_false, not_false_eq_true, and_true, true_and, and_false, false_and, Nat.add_zero, Nat.zero_add]
  · have e2 : D.2.1 2 i = -z_n 1 := by
      rcases (hD.2.1 i hi).2.2.1 with q | q
      · exact q
      · exfalso
        apply w
        unfold d_wf
        refine decide_eq_true ⟨hi, ?_⟩
        rw [q.1, z_ne1 (by omega)]
        exact id
    have k1 : ∀ a, a ≠ g + 9 → a ≠ g + 10 → a ≠ g + 12 → z_up (z_up X (g + 9) i (-z_n 1)) (g + 10) i (-z_n 1) a = I a := fun a h1 h2 h3 => by rw [z_ups h2, z_ups h1, s1 a h1 h2 h3]
    have pd1 := pdX _ k1
    have hs := C_has_o (J := J) (n := n) (l := -z_n 1) h pd1.sz h12 (Or.inl (by decide))
    have r7 := pd1.w hi
    rw [e2] at r7
    have o8 := fun I J => z_ob (I := I) (J := J) (P := P) (n := n) h.1
    have sz := (pdX X s1).sz
    refine ⟨z_up (z_up X (g + 9) i (-z_n 1)) (g + 10) i (-z_n 1), ⟨k1, fun l hl => ?_, fun q t hq ht => ?_⟩, ?_⟩
    · by_cases e : l = i
      · subst e
        rw [z_up_a (by omega), z_up_s, z_up_s, if_neg w, if_neg (fun e => w e.1)]
        exact ⟨rfl, rfl⟩
      · rw [z_up_i e, z_up_i e, z_up_i e, z_up_i e]
        exact s2 l (by omega)
    · rw [z_up_a (by omega), z_up_a (by omega), z_sum_s]
      have ein : d_in D q t i = 0 := by
        unfold d_in
        rw [if_neg (fun e => w e.1)]
      rw [ein, Nat.add_zero]
      exact s3 q t hq ht
    · generalize hX1 : z_up (z_up X (g + 9) i (-z_n 1)) (g + 10) i (-z_n 1) = X1 at *
      simp (disch := omega) only [f_Pa_settle_L2, rp, sz, hi, w9, w10, hX1, r7, o8, hs, or_true, true_or, or_false, false_or, z_b_T, z_b_F, Bool.false_eq_true, Classical.not_not, decide_eq_true_eq, z_sq, Option.bind_some, z_lits, z_n_add, z_n_mul, z_lt, z_le, z_eq, z_ne1, z_1ne, z_lt1, z_1lt, z_ltT, z_ltF, z_leT, z_leF, z_eqF, z_b_0, z_b_1, ↓reduceIte, eq_self, not_true_eq_false, not_false_eq_true, and_true, true_and, and_false, false_and, Nat.add_zero, Nat.zero_add]
set_option maxRecDepth 100000 in
set_option maxHeartbeats 4000000 in
theorem C_settle (h : z_ps S P g) (hg : 131 ≤ g) (hd : z_pd I J g D) (hD : d_ok D) (t0 : ∀ q t, q < 5 → t < 3 → I (g + 12) (q * 3 + t) = z_n 0) : ∃ X, f_Pa_settle g (z_h S I J P n) = some ((), z_h S X J P n) ∧ (∀ a, a ≠ g + 9 → a ≠ g + 10 → a ≠ g + 12 → X a = I a) ∧ z_pt X g D := by
  have h12 := hD.1
  have rp := z_ps_r h
  obtain ⟨X, a1, a2⟩ : ∃ X, f_Pa_settle_L2 g q_FU (z_n 0) (z_h S I J P n) = some ((), z_h S X J P n) ∧ k_se I g D D.1 X :=
    z_runI (fun m i (X : z_MI) => f_Pa_settle_L2 g m (z_n i) (z_h S X J P n)) D.1 (fun i X => k_se I g D i X) (fun r => ∃ X, r = some ((), z_h S X J P n) ∧ k_se I g D D.1 X) (by omega)
      (fun m i X hi se => C_settleS h hg hd hD hi se m)
      (fun m X se => by
        refine ⟨X, ?_, se⟩
        have sz : X g 0 = z_n D.1 := by rw [se.1 g (by omega) (by omega) (by omega)]; exact hd.1
        simp (disch := omega) only [f_Pa_settle_L2, rp, sz, Nat.lt_irrefl, or_true, true_or, or_false, false_or, z_b_T, z_b_F, Bool.false_eq_true, Classical.not_not, decide_eq_true_eq, z_sq, Option.bind_some, z_lits, z_n_add, z_n_mul, z_lt, z_le, z_eq, z_ne1, z_1ne, z_lt1, z_1lt, z_ltT, z_ltF, z_leT, z_leF, z_eqF, z_b_0, z_b_1, ↓reduceIte, eq_self, not_true_eq_false, not_false_eq_true, and_true, true_and, and_false, false_and, Nat.add_zero, Nat.zero_add])
      (x := I) ⟨fun _ _ _ _ => rfl, fun l hl => absurd hl (Nat.not_lt_zero _), fun q t hq ht => by rw [t0 q t hq ht]; rfl⟩
  refine ⟨X, ?_, a2.1, fun l hl => a2.2.1 l hl, fun q t hq ht => a2.2.2 q t hq ht⟩
  unfold f_Pa_settle
  rw [show (0 : Int32) = z_n 0 from rfl, a1, z_sq]
end
