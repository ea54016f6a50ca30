/-! Calls that change what is told. -/
def h_hra (a : Nat) : Bool := (decide (85 ≤ a) && decide (a ≤ 88)) || (decide (90 ≤ a) && decide (a ≤ 98))
/-- the rows that the HOUSES rest on -/
def h_cg (I : z_MI) (J : z_MJ) (I' : z_MI) (J' : z_MJ) : Prop := ∀ a, h_hra a = true → I' a = I a ∧ J' a = J a
section
variable {I I' X : z_MI} {J J' : z_MJ}
theorem h_cg.i (h : h_cg I J I' J') (a : Nat) (ha : h_hra a = true) (i : Nat) : I' a i = I a i := by rw [(h a ha).1]
theorem h_cg.j (h : h_cg I J I' J') (a : Nat) (ha : h_hra a = true) (i : Nat) : J' a i = J a i := by rw [(h a ha).2]
theorem z_th_w (h : h_cg I J I' J') (s : Nat) : z_th I' s = z_th I s := by unfold z_th; rw [h.i _ rfl, h.i _ rfl]
theorem z_ln_w (h : h_cg I J I' J') (s : Nat) : z_ln I' s = z_ln I s := by unfold z_ln; rw [h.i _ rfl]
theorem z_vi_w {I I' : z_MI} {J J' : z_MJ} (h : h_cg I J I' J') (s : Nat) : z_vi I' s = z_vi I s := by unfold z_vi; rw [h.i _ rfl]
theorem z_Ds_w (h : h_cg I J I' J') (s : Nat) : z_Ds I' J' s = z_Ds I J s := by
  unfold z_Ds
  rw [z_ln_w h]
  refine Prod.ext rfl (Prod.ext ?_ ?_)
  · funext k l
    show (if k < 5 then I' (91 + k) (12 * s + l) else z_n 0) = if k < 5 then I (91 + k) (12 * s + l) else z_n 0
    by_cases hk : k < 5
    · rw [if_pos hk, if_pos hk, h.i _ (by unfold h_hra; simp only [Bool.or_eq_true, Bool.and_eq_true, decide_eq_true_eq]; omega)]
    · rw [if_neg hk, if_neg hk]
  · funext k l
    show (if k < 3 then J' (96 + k) (12 * s + l) else 0) = if k < 3 then J (96 + k) (12 * s + l) else 0
    by_cases hk : k < 3
    · rw [if_pos hk, if_pos hk, h.j _ (by unfold h_hra; simp only [Bool.or_eq_true, Bool.and_eq_true, decide_eq_true_eq]; omega)]
    · rw [if_neg hk, if_neg hk]
theorem h_sh_w (h : h_cg I J I' J') (s t : Nat) : h_sh I' s t = h_sh I s t := by unfold h_sh; rw [z_th_w h, z_th_w h, h.i _ rfl, h.i _ rfl, h.i _ rfl, h.i _ rfl]
theorem h_on_w (h : h_cg I J I' J') (s t a : Nat) : h_on I' J' s t a = h_on I J s t a := by unfold h_on; rw [h_sh_w h, z_ln_w h, z_Ds_w h, z_Ds_w h, h.i _ rfl, h.i _ rfl]
theorem h_fb_w (h : h_cg I J I' J') (s l : Nat) : h_fb I' J' s l = h_fb I J s l := by unfold h_fb; rw [z_Ds_w h, h.i _ rfl]
theorem h_lb_w (h : h_cg I J I' J') (s l : Nat) : h_lb I' J' s l = h_lb I J s l := by unfold h_lb; rw [z_Ds_w h, h.i _ rfl]
theorem h_kf_w (h : h_cg I J I' J') (s a : Nat) : ∀ k, h_kf I' J' s a k = h_kf I J s a k
  | 0 => h_fb_w h s a
  | k + 1 => by rw [h_kf, h_kf, h_kf_w h s a k, h_on_w h, h_fb_w h, z_ln_w h]
theorem h_kl_w (h : h_cg I J I' J') (s a : Nat) : ∀ k, h_kl I' J' s a k = h_kl I J s a k
  | 0 => h_lb_w h s a
  | k + 1 => by rw [h_kl, h_kl, h_kl_w h s a k, h_on_w h, h_lb_w h, z_ln_w h]
theorem h_nj_w (h : h_cg I J I' J') (s t : Nat) : h_nj I' J' s t = h_nj I J s t := by
  unfold h_nj
  rw [z_ln_w h]
  exact z_sum_eq fun a _ => by rw [h_on_w h, z_ln_w h]
theorem h_lf_w (h : h_cg I J I' J') (s t w x i : Nat) : h_lf I' J' s t w x i = h_lf I J s t w x i := by
  unfold h_lf h_yr
  rw [h_kl_w h, h_kf_w h, z_Ds_w h, z_Ds_w h, h_on_w h, z_ln_w h, h.i _ rfl, h.i _ rfl]
theorem h_lt_w (h : h_cg I J I' J') (r : Nat → Nat) (s t w x : Nat) : h_lt I' J' r s t w x = h_lt I J r s t w x := by
  unfold h_lt
  rw [z_th_w h, z_th_w h, z_ln_w h, h.i _ rfl, h.i _ rfl, z_sum_eq (fun i _ => h_lf_w h s t w x i)]
theorem h_rc_w (h : h_cg I J I' J') (s : Nat) : h_rc I' J' s = h_rc I J s := by
  unfold h_rc
  rw [show h_nj I' J' = h_nj I J from by funext a b; exact h_nj_w h a b]
theorem h_full_w (h : h_cg I J I' J') (f : h_full I J X) : h_full I' J' X := by
  obtain ⟨f1, f2, f3⟩ := f
  refine ⟨fun j hj => by rw [h_rc_w h]; exact f1 j hj, fun u a hu hth ha => ?_, fun j hj => ?_⟩
  · rw [z_th_w h] at hth
    rw [z_ln_w h] at ha
    rw [h_kf_w h, h_kl_w h]; exact f2 u a hu hth ha
  · rw [h_rc_w h, z_sum_eq (fun t _ => h_lt_w h _ _ _ _ _)]; exact f3 j hj
theorem h_ok.set (h : h_ok I J) (c : h_cg I J I' J') (e : ∀ a, 22 ≤ a → a ≤ 26 → I' a = I a) : h_ok I' J' := by
  rcases h with ⟨h1, h2⟩ | h1
  · refine Or.inl ⟨by rw [e 22 (by omega) (by omega)]; exact h1, ?_⟩
    have f := h_full_w c h2
    exact ⟨fun j hj => by rw [e 23 (by omega) (by omega)]; exact f.1 j hj, fun u a hu hth ha => by rw [e 24 (by omega) (by omega), e 25 (by omega) (by omega)]; exact f.2.1 u a hu hth ha, fun j hj => by rw [e 26 (by omega) (by omega)]; exact f.2.2 j hj⟩
  · exact Or.inr (by rw [e 22 (by omega) (by omega)]; exact h1)
theorem z_iM.set (m : z_iM I J) (e : ∀ a, 90 ≤ a → a ≤ 98 → I' a = I a ∧ J' a = J a) (hV : z_lV I') (h4 : ∀ s, s < 24 → (I' 85 s = z_n 0 ∨ I' 85 s = z_n 1) ∧ (I' 86 s = z_n 0 ∨ I' 86 s = z_n 1) ∧ (I' 86 s = z_n 1 → I' 85 s = z_n 1) ∧ (∃ c, I' 88 s = z_n c ∧ c ≤ 7) ∧ ∃ m, I' 89 s = z_n m ∧ m ≤ 20) (h5 : ∀ v, v < 6 → I' 84 v = z_n 0 ∨ I' 84 v = z_n 1) (h6 : ∀ i, i < 68 → ∃ x, I' 101 i = z_n x ∧ x ≤ 1000) (h7 : ∃ g, I' 83 32 = z_n g ∧ g ≤ 4 ∧ ∀ i, i < g → ∃ y : Int, I' 103 i = Int32.ofInt y ∧ -30 ≤ y ∧ y ≤ 30) : z_iM I' J' := by
  have el : ∀ s, z_ln I' s = z_ln I s := fun s => by unfold z_ln; rw [(e 90 (by omega) (by omega)).1]
  have ed : ∀ s, z_Ds I' J' s = z_Ds I J s := by
    intro s
    unfold z_Ds
    rw [el]
    refine Prod.ext rfl (Prod.ext ?_ ?_)
    · funext k l
      show (if k < 5 then I' (91 + k) (12 * s + l) else z_n 0) = if k < 5 then I (91 + k) (12 * s + l) else z_n 0
      by_cases hk : k < 5
      · rw [if_pos hk, if_pos hk, (e (91 + k) (by omega) (by omega)).1]
      · rw [if_neg hk, if_neg hk]
    · funext k l
      show (if k < 3 then J' (96 + k) (12 * s + l) else 0) = if k < 3 then J (96 + k) (12 * s + l) else 0
      by_cases hk : k < 3
      · rw [if_pos hk, if_pos hk, (e (96 + k) (by omega) (by omega)).2]
      · rw [if_neg hk, if_neg hk]
  refine ⟨fun s hs => ?_, hV, fun s hs => by rw [ed]; exact m.2.2.1 s hs, h4, h5, h6, h7⟩
  rw [el, (e 90 (by omega) (by omega)).1]; exact m.1 s hs
end
section
variable {S : z_SH} {I I' : z_MI} {J J' : z_MJ} {P P' : z_MP} {K : Nat → Bool} {n : Nat}
theorem z_pg.set {p : Nat} {D : z_D} (k : z_pg S I J P K n p D) (e : ∀ a, 131 ≤ a → I' a = I a ∧ J' a = J a ∧ P' a = P a) : z_pg S I' J' P' K n p D := by
  have h0 := k.1
  have ep : ∀ a, p ≤ a → I' a = I a ∧ J' a = J a ∧ P' a = P a := fun a ha => e a (by omega)
  obtain ⟨k0, k1, k2, k3, k4, k5, k6, k7⟩ := k.2.1
  refine ⟨h0, ⟨k0, fun j a b => by rw [(ep p (by omega)).2.2]; exact k1 j a b, k2, k3, k4, k5, by rw [(ep (p + 11) (by omega)).2.2]; exact k6, k7⟩, ⟨by rw [(ep p (by omega)).1]; exact k.2.2.1.1, fun i l hi hl => by rw [(ep (p + 1 + i) (by omega)).2.1]; exact k.2.2.1.2.1 i l hi hl, fun l hl => by rw [(ep (p + 4) (by omega)).1, (ep (p + 5) (by omega)).1, (ep (p + 6) (by omega)).1, (ep (p + 7) (by omega)).1, (ep (p + 8) (by omega)).1]; exact k.2.2.1.2.2 l hl⟩, fun l hl => by rw [(ep (p + 9) (by omega)).1, (ep (p + 10) (by omega)).1]; exact k.2.2.2.1 l hl, fun q t hq ht => by rw [(ep (p + 12) (by omega)).1]; exact k.2.2.2.2 q t hq ht⟩
theorem Inv.set (h : Inv S I J P K n) (e : ∀ a, (a < 13 ∨ (20 < a ∧ a < 22) ∨ (42 < a ∧ a < 83) ∨ a = 99 ∨ (104 ≤ a ∧ a ≤ 107) ∨ 125 ≤ a) → I' a = I a ∧ J' a = J a) (e16 : I' 83 16 = I 83 16) (eP : ∀ a, a ≠ 18 → P' a = P a) (iM : z_iM I' J') (iC : z_iC I') (ho : h_ok I' J') (hp : ∀ s, s < 24 → (z_th I' s = false ∧ P' 18 s = none) ∨ (z_th I' s = true ∧ ∃ p, P' 18 s = some p ∧ z_pg S I J P K n p (z_Ds I' J' s))) : Inv S I' J' P' K n := by
  obtain ⟨B, -, ht, hm, hl, hc⟩ := h
  have n131 : 131 ≤ n := B.2.2.1.1
  have hK := B.2.2.1.2
  have gp : ∀ p D, z_pg S I J P K n p D → z_pg S I' J' P' K n p D := fun p D k => k.set (fun a ha => ⟨(e a (by omega)).1, (e a (by omega)).2, eP a (by omega)⟩)
  have hP : z_Pt P' := by
    intro q hq
    have h1 : ∀ q ∈ z_pl, q.1 ≠ 18 := by decide
    rw [eP q.1 (h1 q hq)]; exact B.2.1 q hq
  refine ⟨⟨B.1, hP, B.2.2.1, iM, iC, fun s hs => ?_⟩, ho, ?_, ?_, ?_, ?_⟩
  · rcases hp s hs with k | ⟨k1, p, k2, k3⟩
    · exact Or.inl k
    · exact Or.inr ⟨k1, p, k2, gp p _ k3⟩
  · obtain ⟨N, t1, t2, t3, t4⟩ := ht
    exact ⟨N, t1, by rw [(e 9 (by omega)).1]; exact t2, e16.trans t3, fun i hi => by rw [(e 10 (by omega)).1, (e 99 (by omega)).1]; exact t4 i hi⟩
  · exact hm.mono (fun a ha => ⟨(e a (by omega)).1, (e a (by omega)).2, eP a (by omega)⟩) gp
  · exact hl.mono (Nat.le_refl _) (eP 34 (by omega)) ⟨(e 104 (by omega)).1, (e 105 (by omega)).1, (e 106 (by omega)).1, (e 107 (by omega)).1⟩ (fun a h1 h2 h3 => ⟨⟨rfl, eP a (by omega)⟩, fun _ => (e a (by omega)).1⟩) hK
  · obtain ⟨c1, c2, c3, c4, c5⟩ := hc
    refine ⟨fun i hi => by rw [(e 11 (by omega)).2]; exact c1 i hi, fun i hi => by rw [(e 12 (by omega)).2]; exact c2 i hi, fun i hi => by rw [(e 1 (by omega)).1]; exact c3 i hi, fun i hi => by rw [(e 7 (by omega)).1]; exact c4 i hi, by rw [(e 4 (by omega)).1]; exact c5⟩
end
/-- a call of the class, then one of the reference: all holds again -/
def z_call {T : Type} (fc fm : q_H → Option (T × q_H)) (S : z_SH) (I : z_MI) (J : z_MJ) (P : z_MP) (n : Nat × Nat) : Prop :=
  ∃ r S' I' J' P' n' K' I2 J2, fc (z_h S I J P n) = some (r, z_h S' I' J' P' n') ∧ fm (z_h S' I' J' P' n') = some (r, z_h S' I2 J2 P' n') ∧ (n.1 ≤ n'.1 ∧ n'.1 ≤ n.1 + 60 ∧ n'.2 ≤ n.2 + 3000) ∧ Inv S' I2 J2 P' K' n'.1
def z_callt (fc : q_H → Option (Option Int32 × q_H)) (fm : q_H → Option (Int32 × q_H)) (S : z_SH) (I : z_MI) (J : z_MJ) (P : z_MP) (n : Nat × Nat) : Prop :=
  ∃ r r2 S' I' J' P' n' K' I2 J2, fc (z_h S I J P n) = some (r, z_h S' I' J' P' n') ∧ fm (z_h S' I' J' P' n') = some (r2, z_h S' I2 J2 P' n') ∧ (n.1 ≤ n'.1 ∧ n'.1 ≤ n.1 + 60 ∧ n'.2 ≤ n.2 + 3000) ∧ Inv S' I2 J2 P' K' n'.1 ∧
    match r with | some x => r2 = x ∧ I2 83 0 = z_n 0 | none => I2 83 0 = z_n 1
section
variable {S : z_SH} {I : z_MI} {J : z_MJ} {P : z_MP} {K : Nat → Bool} {n : Nat × Nat}
theorem z_pr.go {T : Type} {fc fm : q_H → Option (T × q_H)} (h : z_pr fc fm S I J P K n) (H : Inv S I J P K n.1) : z_call fc fm S I J P n := by
  obtain ⟨r, S', I', J', P', n', I2, J2, h1, h2, g, b, m⟩ := h
  exact ⟨r, S', I', J', P', n', K, I2, J2, h1, h2, b, (H.ag g b.1).mf m⟩
theorem z_prt.go {fc : q_H → Option (Option Int32 × q_H)} {fm : q_H → Option (Int32 × q_H)} (h : z_prt fc fm S I J P K n) (H : Inv S I J P K n.1) : z_callt fc fm S I J P n := by
  obtain ⟨r, r2, S', I', J', P', n', I2, J2, h1, h2, g, b, m, q⟩ := h
  exact ⟨r, r2, S', I', J', P', n', K, I2, J2, h1, h2, b, (H.ag g b.1).mf m, q⟩
theorem h_pair.go {T : Type} {fc fm : q_H → Option (T × q_H)} (h : h_pair fc fm S I J P n) (H : Inv S I J P K n.1) : z_call fc fm S I J P n := by
  obtain ⟨r, Y, I2, h1, e, ho, h2, m⟩ := h
  exact ⟨r, S, Y, J, P, n, K, I2, J, h1, h2, ⟨by omega, by omega, by omega⟩, (H.ho e ho).mf m⟩
theorem h_pairt.go {fc : q_H → Option (Option Int32 × q_H)} {fm : q_H → Option (Int32 × q_H)} (h : h_pairt fc fm S I J P n) (H : Inv S I J P K n.1) : z_callt fc fm S I J P n := by
  obtain ⟨r, r2, Y, n', I2, h1, e, b, ho, h2, m, q⟩ := h
  have H2 := (H.ho e ho).mf m
  have H3 : Inv S I2 J P K n'.1 := H2.ag (z_ag.refl _ _ _ _ _ _) b.1
  exact ⟨r, r2, S, Y, J, P, n', K, I2, J, h1, h2, b, H3, q⟩
theorem z_call.no {T : Type} {fc fm : q_H → Option (T × q_H)} {r : T} (H : Inv S I J P K n.1) (h1 : fc (z_h S I J P n) = some (r, z_h S I J P n)) (h2 : fm (z_h S I J P n) = some (r, z_h S (z_up I 83 0 (z_n 0)) J P n)) : z_call fc fm S I J P n :=
  ⟨r, S, I, J, P, n, K, _, J, h1, h2, ⟨by omega, by omega, by omega⟩, H.mf (z_mf.up rfl)⟩
end
