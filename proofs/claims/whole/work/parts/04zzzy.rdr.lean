/-! READ: the pair. -/
section
variable {S S' : z_SH} {I X X2 X4 X5 : z_MI} {J Z Z2 Z4 Z5 : z_MJ} {P P' : z_MP} {K : Nat → Bool} {n : Nat × Nat} {T : k_T} {s : Nat} {D : z_D}
/-- what the reference's reading leaves of X and Z -/
def k_fy (X : z_MI) (Z : z_MJ) (X4 : z_MI) (Z4 : z_MJ) : Prop := (∀ a, a ≠ 83 → (a < 90 ∨ 95 < a) → X4 a = X a) ∧ (∀ a, a ≠ 83 → (a < 96 ∨ 98 < a) → Z4 a = Z a) ∧ (∀ i, i ≠ 24 → X4 90 i = X 90 i) ∧ (∀ k i, k < 5 → i < 288 → X4 (91 + k) i = X (91 + k) i) ∧ (∀ k i, k < 3 → i < 288 → Z4 (96 + k) i = Z (96 + k) i) ∧ X4 83 16 = z_n 0 ∧ X4 83 32 = X 83 32
theorem k_fy_of (b2 : ∀ a, a ≠ 83 → X2 a = z_up X 83 0 (z_n 0) a) (b3 : ∀ a, a ≠ 83 → Z2 a = Z a) (b4 : X2 83 16 = z_n 0) (b5 : X2 83 32 = z_up X 83 0 (z_n 0) 83 32) (f : k_mf (z_up X2 90 24 (z_n 0)) Z2 X4 Z4) : k_fy X Z X4 Z4 := by
  obtain ⟨f1, f2, f3, f4, f5, f6, f7⟩ := f
  refine ⟨fun a h1 h2 => ?_, fun a h1 h2 => ?_, fun i hi => ?_, fun k i hk hi => ?_, fun k i hk hi => ?_, ?_, ?_⟩
  · rw [f1 a h1 h2, z_ups (by omega), b2 a h1, z_ups h1]
  · rw [f5 a h1 h2, b3 a h1]
  · rw [f3 i hi, z_up_i hi, b2 90 (by decide), z_ups (by decide)]
  · rw [f4 k i hk (Or.inl hi), z_ups (by omega), b2 _ (by omega), z_ups (by omega)]
  · rw [f7 k i hk (Or.inl hi), b3 _ (by omega)]
  · rw [f2 16 (by unfold k_5; omega), z_ups (by decide)]; exact b4
  · rw [f2 32 (by unfold k_5; omega), z_ups (by decide), b5, z_up_i (by decide)]
/-- what the class's reading leaves -/
def k_fc (n : Nat) (S : z_SH) (I : z_MI) (J : z_MJ) (P : z_MP) (S' : z_SH) (X : z_MI) (Z : z_MJ) (P' : z_MP) : Prop := ∀ a, a < n → S' a = S a ∧ (a ≠ 9 → Z a = J a) ∧ (a ≠ 18 → P' a = P a) ∧ (a ≠ 9 → a ≠ 22 → X a = I a)
theorem k_pgs {n' : Nat} (H : Inv S I J P K n.1) (A : Inv S' (k_It n.1 I X) (k_Jt n.1 J Z) (k_Pt n.1 P P') (k_Kn K n.1) n') {t : Nat} (ht : t < 24) : (z_th I t = false ∧ P 18 t = none) ∨ (z_th I t = true ∧ ∃ p, P 18 t = some p ∧ z_pg S' (k_It n.1 I X) (k_Jt n.1 J Z) (k_Pt n.1 P P') (k_Kn K n.1) n' p (z_Ds I J t)) := by
  have n131 : 131 ≤ n.1 := H.1.2.2.1.1
  have cg : h_cg I J (k_It n.1 I X) (k_Jt n.1 J Z) := fun a ha => by
    unfold h_hra at ha
    simp only [Bool.or_eq_true, Bool.and_eq_true, decide_eq_true_eq] at ha
    exact ⟨k_It_o (by omega) (by omega) (by omega), k_Jt_o (by omega) (by omega) (by omega)⟩
  have := A.1.pg ht
  rw [z_th_w cg, z_Ds_w cg, k_Pt_o (show 18 < n.1 by omega)] at this
  exact this
theorem X_read_f (H : Inv S I J P K n.1) {n' : Nat} (hn : n.1 ≤ n') (a2 : k_fc n.1 S I J P S' X Z P') (a3 : X 9 1 = z_n 0) (p18 : P' 18 = P 18) (x22 : X 22 = I 22) (fy : k_fy X Z X4 Z4) : Inv S' X4 Z4 P' (k_Kn K n.1) n' := by
  have n131 : 131 ≤ n.1 := H.1.2.2.1.1
  obtain ⟨y1, y2, y3, y4, y5, y6, y7⟩ := fy
  have g : ∀ a, a < n.1 → S' a = S a ∧ (a ≠ 18 → P' a = P a) := fun a ha => ⟨(a2 a ha).1, (a2 a ha).2.2.1⟩
  have t1 : X4 9 1 = z_n 0 := by rw [y1 9 (by decide) (by omega)]; exact a3
  have t3 : X4 83 32 = I 83 32 := by rw [y7, (a2 83 (by omega)).2.2.2 (by decide) (by decide)]
  have e90 : ∀ t, t < 24 → X4 90 t = I 90 t := fun t ht => by rw [y3 t (by omega), (a2 90 (by omega)).2.2.2 (by decide) (by decide)]
  have r : ∀ a, a < 90 → a ≠ 9 → a ≠ 22 → a ≠ 83 → X4 a = I a := fun a h1 h2 h3 h4 => (y1 a h4 (by omega)).trans ((a2 a (by omega)).2.2.2 h2 h3)
  have dq : ∀ t, t < 24 → d_eq (z_Ds I J t) (z_Ds X4 Z4 t) := fun t ht => k_deq (e90 t ht) (H.1.qL t ht).2 (fun k i hk h1 h2 => by rw [y4 k i hk (by omega), (a2 (91 + k) (by omega)).2.2.2 (by omega) (by omega)]) (fun k i hk h1 h2 => by rw [y5 k i hk (by omega), (a2 (96 + k) (by omega)).2.1 (by omega)])
  have th : ∀ t, z_th X4 t = z_th I t := fun t => by unfold z_th; rw [r 85 (by omega) (by omega) (by omega) (by omega), r 86 (by omega) (by omega) (by omega) (by omega)]
  have A := k_end (S' := S') (X := X4) (Z := Z4) (P' := P') H hn (fun a ha => (g a ha).1) t1 y6 t3
  refine k_set H hn g ⟨fun a h1 h2 h3 h4 h5 h6 => (y1 a h4 h6).trans ((a2 a h1).2.2.2 h2 h3), fun a h1 h2 h3 h4 => (y2 a h3 h4).trans ((a2 a h1).2.1 h2)⟩ t1 y6 t3 (fun t ht => ⟨(dq t ht).ok (H.1.qD ht), ?_⟩) (fun t ht => Or.inl (by rw [r 86 (by omega) (by omega) (by omega) (by omega)])) ?_ (fun t ht => ?_)
  · unfold z_ln
    rw [e90 t ht]; exact (H.1.qL t ht).1
  · refine h_v.ok (I := I) (J := J) (fun t ht => ⟨⟨th t, by rw [r 87 (by omega) (by omega) (by omega) (by omega)], by rw [r 88 (by omega) (by omega) (by omega) (by omega)]⟩, dq t ht⟩) H.2.1 (fun a h1 h2 => ?_)
    by_cases q : a = 22
    · subst q
      rw [y1 22 (by omega) (by omega)]; exact x22
    · exact r a (by omega) (by omega) q (by omega)
  · rw [th t, p18]
    rcases k_pgs H A ht with q | ⟨q1, p, q2, q3⟩
    · exact Or.inl q
    · exact Or.inr ⟨q1, p, q2, q3.deq (dq t ht) (H.1.qD ht)⟩
theorem X_read_s (H : Inv S I J P K n.1) (hs : s < 24) (told : ¬ I 85 s = z_n 0) (a2 : k_fc n.1 S I J P S' X Z P') (a3 : X 9 1 = z_n 0) (ok : d_ok D) (p18 : ∀ i, P' 18 i = if i = s then some (n.1 + 1) else P 18 i) (x22 : X 22 0 = z_n 1) (pg : z_ps S' P' (n.1 + 1) ∧ z_pd X Z (n.1 + 1) D ∧ z_pt X (n.1 + 1) D) (fy : k_fy X Z X4 Z4) (mz : k_mz X4 Z4 D) (kq : k_q X4 Z4 s 12 X5 Z5) : Inv S' (z_up (z_up X5 90 s (X5 90 24)) 86 s (z_n 1)) Z5 P' (k_Kn K n.1) (n.1 + 14) := by
  have n131 : 131 ≤ n.1 := H.1.2.2.1.1
  have ok1 := ok.1
  obtain ⟨y1, y2, y3, y4, y5, y6, y7⟩ := fy
  obtain ⟨k1, k2⟩ := kq
  have x5 : ∀ a, (a < 91 ∨ 96 ≤ a) → X5 a = X4 a := fun a ha => by funext i; rw [k1, if_neg (by omega)]
  have z5 : ∀ a, (a < 96 ∨ 99 ≤ a) → Z5 a = Z4 a := fun a ha => by funext i; rw [k2, if_neg (by omega)]
  have n24 : X5 90 24 = z_n D.1 := by rw [x5 90 (by omega)]; exact mz.1
  rw [n24]
  have xf : ∀ a, a ≠ 90 → a ≠ 86 → z_up (z_up X5 90 s (z_n D.1)) 86 s (z_n 1) a = X5 a := fun a h1 h2 => by rw [z_ups h2, z_ups h1]
  have f90 : ∀ t, z_up (z_up X5 90 s (z_n D.1)) 86 s (z_n 1) 90 t = if t = s then z_n D.1 else X4 90 t := fun t => by
    rw [z_ups (by decide)]
    by_cases q : t = s
    · rw [if_pos q, q, z_up_s]
    · rw [if_neg q, z_up_i q, x5 90 (by omega)]
  have f86 : ∀ t, z_up (z_up X5 90 s (z_n D.1)) 86 s (z_n 1) 86 t = if t = s then z_n 1 else X4 86 t := fun t => by
    by_cases q : t = s
    · rw [if_pos q, q, z_up_s]
    · rw [if_neg q, z_up_i q, z_ups (by decide), x5 86 (by omega)]
  generalize z_up (z_up X5 90 s (z_n D.1)) 86 s (z_n 1) = Xf at *
  have g : ∀ a, a < n.1 → S' a = S a ∧ (a ≠ 18 → P' a = P a) := fun a ha => ⟨(a2 a ha).1, (a2 a ha).2.2.1⟩
  have xa : ∀ a, a ≠ 83 → a ≠ 86 → (a < 90 ∨ 95 < a) → Xf a = X a := fun a h1 h2 h3 => by rw [xf a (by omega) h2, x5 a (by omega), y1 a h1 h3]
  have t1 : Xf 9 1 = z_n 0 := by rw [xa 9 (by decide) (by decide) (by omega)]; exact a3
  have t2 : Xf 83 16 = z_n 0 := by rw [xf 83 (by decide) (by decide), x5 83 (by omega)]; exact y6
  have t3 : Xf 83 32 = I 83 32 := by rw [xf 83 (by decide) (by decide), x5 83 (by omega), y7, (a2 83 (by omega)).2.2.2 (by decide) (by decide)]
  have r : ∀ a, a < 90 → a ≠ 9 → a ≠ 22 → a ≠ 83 → a ≠ 86 → Xf a = I a := fun a h1 h2 h3 h4 h5 => (xa a h4 h5 (by omega)).trans ((a2 a (by omega)).2.2.2 h2 h3)
  have e90 : ∀ t, t < 24 → t ≠ s → Xf 90 t = I 90 t := fun t ht q => by rw [f90, if_neg q, y3 t (by omega), (a2 90 (by omega)).2.2.2 (by decide) (by decide)]
  have e86 : ∀ t, t ≠ s → Xf 86 t = I 86 t := fun t q => by rw [f86, if_neg q, y1 86 (by decide) (by omega), (a2 86 (by omega)).2.2.2 (by decide) (by decide)]
  have dq : ∀ t, t < 24 → t ≠ s → d_eq (z_Ds I J t) (z_Ds Xf Z5 t) := fun t ht q => k_deq (e90 t ht q) (H.1.qL t ht).2 (fun k i hk h1 h2 => by rw [xf _ (by omega) (by omega), k1, if_neg (by omega), y4 k i hk (by omega), (a2 (91 + k) (by omega)).2.2.2 (by omega) (by omega)]) (fun k i hk h1 h2 => by rw [k2, if_neg (by omega), y5 k i hk (by omega), (a2 (96 + k) (by omega)).2.1 (by omega)])
  have ds : d_eq D (z_Ds Xf Z5 s) := by
    refine k_deq' (by rw [f90, if_pos rfl]) ok (fun k l hk hl => ?_) (fun k l hk hl => ?_)
    · rw [xf _ (by omega) (by omega), k1, if_pos (by omega), show 288 + (12 * s + l - 12 * s) = 288 + l by omega]; exact (mz.2 l hl).1 k hk
    · rw [k2, if_pos (by omega), show 288 + (12 * s + l - 12 * s) = 288 + l by omega]; exact (mz.2 l hl).2 k hk
  have t85 : I 85 s = z_n 1 := (H.1.2.2.2.1.2.2.2.1 s hs).1.resolve_left told
  have th : ∀ t, t ≠ s → z_th Xf t = z_th I t := fun t q => by unfold z_th; rw [r 85 (by omega) (by omega) (by omega) (by omega) (by omega), e86 t q]
  have ths : z_th Xf s = true := by
    unfold z_th
    rw [r 85 (by omega) (by omega) (by omega) (by omega) (by omega), t85, f86, if_pos rfl]; decide
  have A := k_end (S' := S') (n' := n.1 + 14) (X := Xf) (Z := Z5) (P' := P') H (by omega) (fun a ha => (g a ha).1) t1 t2 t3
  refine k_set H (by omega) g ⟨fun a h1 h2 h3 h4 h5 h6 => (xa a h4 h5 h6).trans ((a2 a h1).2.2.2 h2 h3), fun a h1 h2 h3 h4 => by rw [z5 a (by omega), y2 a h3 h4, (a2 a h1).2.1 h2]⟩ t1 t2 t3 (fun t ht => ?_) (fun t ht => ?_) (Or.inr ?_) (fun t ht => ?_)
  · by_cases q : t = s
    · subst q
      refine ⟨ds.ok ok, ?_⟩
      unfold z_ln
      rw [f90, if_pos rfl, z_n_nat (by omega)]
    · refine ⟨(dq t ht q).ok (H.1.qD ht), ?_⟩
      unfold z_ln
      rw [e90 t ht q]; exact (H.1.qL t ht).1
  · by_cases q : t = s
    · subst q
      exact Or.inr ⟨by rw [f86, if_pos rfl], t85⟩
    · exact Or.inl (e86 t q)
  · rw [xa 22 (by decide) (by decide) (by omega)]; exact x22
  · by_cases q : t = s
    · subst q
      refine Or.inr ⟨ths, n.1 + 1, by rw [p18, if_pos rfl], z_pg.deq (D := D) ?_ ds ok⟩
      have p0 : z_pg S' X Z P' (k_Kn K n.1) (n.1 + 14) (n.1 + 1) D := ⟨⟨by omega, by omega, fun j hj => k_Kn_n (by omega)⟩, pg⟩
      refine p0.set (fun a ha => ?_)
      by_cases hl : a < n.1
      · rw [k_It_o hl (by omega) (by omega), k_Jt_o hl (by omega) (by omega), k_Pt_o hl]
        obtain ⟨b1, b2, b3, b4⟩ := a2 a hl
        exact ⟨(b4 (by omega) (by omega)).symm, (b2 (by omega)).symm, (b3 (by omega)).symm⟩
      · rw [k_It_n (by omega), k_Jt_n (by omega), k_Pt_n (by omega)]
        exact ⟨xa a (by omega) (by omega) (by omega), by rw [z5 a (by omega), y2 a (by omega) (by omega)], rfl⟩
    · rw [th t q, p18, if_neg q]
      rcases k_pgs H A ht with w | ⟨q1, p, q2, q3⟩
      · exact Or.inl w
      · exact Or.inr ⟨q1, p, q2, q3.deq (dq t ht q) (H.1.qD ht)⟩
set_option maxRecDepth 100000 in
set_option maxHeartbeats 4000000 in
theorem X_read_t (H : Inv S I J P K n.1) (hs : s < 24) (told : ¬ I 85 s = z_n 0) : z_call (f_Rs_read 8 (z_n s)) (f_Mo_read 83 (z_n s)) S I J P n := by
  have B := H.1
  have n131 : 131 ≤ n.1 := B.2.2.1.1
  obtain ⟨T, hT1, hT2⟩ := k_tape H.2.2.1
  obtain ⟨r, S', X, Z, P', a1, a2, a3, a4⟩ := C_read H hs told hT1
  have hS : z_St S' := B.qS.mono (S' := S') (I := I) (J := J) (P := P) (I' := I) (J' := J) (P' := P) (X := z_nil) (fun a ha => ⟨⟨(a2 a ha).1, rfl⟩, fun _ => ⟨rfl, rfl⟩⟩) n131
  have hP : z_Pt P' := by
    intro q hq
    have h1 : ∀ q ∈ z_pl, q.1 ≠ 18 ∧ q.1 < 131 := by decide
    rw [(a2 q.1 (by have := (h1 q hq).2; omega)).2.2.1 (h1 q hq).1]; exact B.qP q hq
  have xa : ∀ a, a < 131 → a ≠ 9 → a ≠ 22 → X a = I a := fun a h1 h2 h3 => (a2 a (by omega)).2.2.2 h2 h3
  obtain ⟨X2, Z2, b1, b2, b3, b4, b5, b6, b7⟩ := M_starts (I := z_up X 83 0 (z_n 0)) (J := Z) (P := P') (n := (n.1 + 14, n.2 + 151)) hS hP (T := T) (by
    rw [z_up_i (by decide), z_ups (by decide), xa 83 (by omega) (by omega) (by omega), xa 99 (by omega) (by omega) (by omega)]; exact hT2)
  have om := fun I J => z_ob (S := S') (I := I) (J := J) (P := P') (n := (n.1 + 14, n.2 + 151)) (s_83 hS)
  have is := M_isSheet (I := X2) (J := Z2) (n := (n.1 + 14, n.2 + 151)) hS hP hs
  rw [b2 85 (by decide), z_ups (by decide), xa 85 (by omega) (by omega) (by omega), z_b_t told] at is
  have g7 : ∀ X Z, q_gr (q_gf (z_h S' X Z P' (n.1 + 14, n.2 + 151)) 12 83 7) = some 90 := fun _ _ => z_gr (s_83 hS) rfl (p_83_7 hP)
  have g3 : ∀ X Z, q_gr (q_gf (z_h S' X Z P' (n.1 + 14, n.2 + 151)) 12 83 3) = some 86 := fun _ _ => z_gr (s_83 hS) rfl (p_83_3 hP)
  have w90 : ∀ X Z i v, i < 25 → q_sa (z_h S' X Z P' (n.1 + 14, n.2 + 151)) 20 90 (z_n i) (.int v) = some (z_h S' (z_up X 90 i v) Z P' (n.1 + 14, n.2 + 151)) := fun _ _ _ _ hi => z_sai (s_90 hS) (by decide) (by omega) (z_rpl hi)
  have r90 : ∀ X Z, q_gi (q_ga (z_h S' X Z P' (n.1 + 14, n.2 + 151)) 20 90 (z_n 24)) = some (X 90 24) := fun _ _ => z_gia (s_90 hS) (by omega) (z_rpl (by omega))
  have w86 : ∀ X Z v, q_sa (z_h S' X Z P' (n.1 + 14, n.2 + 151)) 22 86 (z_n s) (.int v) = some (z_h S' (z_up X 86 s v) Z P' (n.1 + 14, n.2 + 151)) := fun _ _ _ => z_sai (s_86 hS) (by decide) (by omega) (z_rpl hs)
  have lp := M_readL (n := (n.1 + 14, n.2 + 151)) (T := T) hS hP (z_n s) 13 q_FU (by rw [z_FU]; omega) 0 k_D0 (z_up X2 90 24 (z_n 0)) Z2 (by omega) (by rw [z_ups (by decide), z_ups (by decide)]; exact b6) (by unfold k_M; rw [z_ups (by decide)]; exact b7) ⟨z_up_s _ _ _ _, fun l hl => absurd hl (Nat.not_lt_zero _)⟩ ⟨by decide, fun l hl => absurd hl (Nat.not_lt_zero _), fun l k hl => absurd hl (Nat.not_lt_zero _)⟩ rfl
  have pre : f_Mo_read 83 (z_n s) (z_h S' X Z P' (n.1 + 14, n.2 + 151)) = q_sq (f_Mo_read_L27 83 (z_n s) q_FU (z_h S' (z_up X2 90 24 (z_n 0)) Z2 P' (n.1 + 14, n.2 + 151))) fun (t0 : Int32 ⊕ Unit) σ12 => match t0 with | .inl r21 => some (r21, σ12) | .inr t11 => (q_sq (f_Mo_read_L119 83 (z_n s) q_FU (0 : Int32) σ12) fun (t13 : Unit) σ14 => (q_gr (q_gf σ14 12 83 7)).bind fun x15 => (q_gr (q_gf σ14 12 83 7)).bind fun x16 => (q_gi (q_ga σ14 20 x16 (24 : Int32))).bind fun x17 => (q_sa σ14 20 x15 (z_n s) (.int x17)).bind fun σ18 => (q_gr (q_gf σ18 12 83 3)).bind fun x19 => (q_sa σ18 22 x19 (z_n s) (.int (1 : Int32))).bind fun σ20 => some ((0 : Int32), σ20)) := by
    unfold f_Mo_read
    rw [show (0 : Int32) = z_n 0 from rfl, M_thr hS, Option.bind_some, om, Option.bind_some, b1, z_sq, om, Option.bind_some, is, z_sq, if_neg (show ¬ z_n 1 = z_n 0 by decide), g7, Option.bind_some, show (24 : Int32) = z_n 24 from rfl, w90 _ _ _ _ (by omega), Option.bind_some]
    rfl
  generalize k_all T 13 0 k_D0 = O at *
  rcases lp with ⟨F, X4, Z4, e1, e2, e3⟩ | ⟨p', D', X4, Z4, e1, e2, e3, e4, e5⟩
  · subst e1
    obtain ⟨c1, c2, c3, c4⟩ := a4
    have fy := k_fy_of b2 b3 b4 b5 e3
    refine ⟨r, S', X, Z, P', _, k_Kn K n.1, X4, Z4, a1, ?_, ⟨by simp only; omega, by simp only; omega, by simp only; omega⟩, X_read_f H (by simp only; omega) a2 a3 c3 c4 fy⟩
    rw [pre, e2, z_sq, c1]
  · subst e1
    obtain ⟨c1, c2, c3, c4, c5⟩ := a4
    have fy := k_fy_of b2 b3 b4 b5 e3
    obtain ⟨X5, Z5, d1, d2⟩ := M_kept (I := X4) (J := Z4) (n := (n.1 + 14, n.2 + 151)) hS hP hs
    refine ⟨r, S', X, Z, P', _, k_Kn K n.1, _, Z5, a1, ?_, ⟨by simp only; omega, by simp only; omega, by simp only; omega⟩, X_read_s H hs told a2 a3 c2 c3 c4 c5 fy e4 d2⟩
    rw [pre, e2, z_sq]
    dsimp only
    rw [d1, z_sq, g7, Option.bind_some, Option.bind_some, show (24 : Int32) = z_n 24 from rfl, r90, Option.bind_some, w90 _ _ _ _ (by omega), Option.bind_some, g3, Option.bind_some, show (1 : Int32) = z_n 1 from rfl, w86, Option.bind_some, c1]
    rfl
set_option maxRecDepth 100000 in
set_option maxHeartbeats 4000000 in
theorem X_read (H : Inv S I J P K n.1) (s : Int32) : z_call (f_Rs_read 8 s) (f_Mo_read 83 s) S I J P n := by
  have B := H.1
  rcases z_in s 23 (by omega) with ⟨k, hk, rfl⟩ | h
  · by_cases told : I 85 k = z_n 0
    · refine X_read_no H (z_n k) ?_ (fun X Z n e => ?_)
      · rw [C_isTold B (by omega), z_b_f (fun q => q told)]
      · rw [M_isSheet B.qS B.qP (by omega), e 85 (by decide) (by decide), z_b_f (fun q => q told)]
    · exact X_read_t H (by omega) told
  · exact X_read_no H s (C_isTold_o h) (fun X Z n e => M_isSheet_o B.qS B.qP h)
end
