/-! LAW: what holds between calls. -/
theorem l_M.congr {k N : Nat} {fr to co fr' to' co' : Nat → Int32} {w : l_V → Bool} (h : l_M k N fr to co w) (e : ∀ j, j < 6 → fr' j = fr j ∧ to' j = to j) (e7 : ∀ i, i < 1000 → co' i = co i) : l_M k N fr' to' co' w := by
  intro S I J P n v hS hP i1 i2 i3 i4
  exact h S I J P n v hS hP i1 (fun j hj => ⟨((i2 j hj).1).trans (e j hj).1, ((i2 j hj).2).trans (e j hj).2⟩) (fun i hi => (i3 i hi).trans (e7 i hi)) i4
section
variable {S S' : z_SH} {I I' X Y : z_MI} {J J' Z W : z_MJ} {P P' : z_MP} {K K' : Nat → Bool} {n n' : Nat}
theorem i_l1.oth {k : Nat} (h : i_l1 S I P K n k) (hn : n ≤ n') (hK : ∀ a, K a = true → (70 < a ∧ a < 83) ∨ 131 ≤ a) (e : ∀ a, 70 < a → a < n → (a < 83 ∨ 131 ≤ a) → (S' a = S a ∧ P' a = P a) ∧ K' a = K a ∧ (K a = false → I' a = I a)) (e34 : P' 34 k = P 34 k) (e104 : I' 104 k = I 104 k) (e5 : ∀ j, j < 6 → I' 105 (6 * k + j) = I 105 (6 * k + j) ∧ I' 106 (6 * k + j) = I 106 (6 * k + j)) (e7 : ∀ i, i < 1000 → I' 107 (1000 * k + i) = I 107 (1000 * k + i)) : i_l1 S' I' P' K' n' k := by
  obtain ⟨q, c, t, m, z, N, w, h1, ⟨⟨q1, q2, q3, q4⟩, ⟨c1, c2, c3, c4⟩, t1, t2, t3⟩, ⟨h2, h3, h4, h5, h6, h7, h8⟩, ⟨h9, h10⟩, h11, h12⟩ := h
  have eq := e q q1 q2 q3
  have ec := e c c1 c2 c3
  have ht := hK t t3
  have et := e t (by omega) t2 (by omega)
  refine ⟨q, c, t, m, z, N, w, by rw [e34]; exact h1, ⟨⟨q1, by omega, q3, by rw [eq.2.1]; exact q4⟩, ⟨c1, by omega, c3, by rw [ec.2.1]; exact c4⟩, t1, by omega, by rw [et.2.1]; exact t3⟩, ⟨eq.1.1.trans h2, by rw [eq.1.2]; exact h3, by rw [eq.1.2]; exact h4, by rw [eq.2.2 q4]; exact h5, by rw [eq.2.2 q4]; exact h6, by rw [e104]; exact h7, h8⟩, ⟨ec.1.1.trans h9, et.1.1.trans h10⟩, by rw [ec.2.2 c4]; exact h11, h12.congr e5 e7⟩
/-- K may be changed above n -/
theorem z_pg.kk {m p : Nat} {D : z_D} (h : z_pg S I J P K m p D) (e : ∀ a, a < m → K' a = K a) : z_pg S I J P K' m p D := ⟨⟨h.1.1, h.1.2.1, fun j hj => by rw [e _ (by have := h.1.2.1; omega)]; exact h.1.2.2 j hj⟩, h.2⟩
theorem Inv.kk (H : Inv S I J P K n) (e : ∀ a, a < n → K' a = K a) (e2 : ∀ a, K' a = true → (70 < a ∧ a < 83) ∨ 131 ≤ a) : Inv S I J P K' n := by
  obtain ⟨B, ho, ht, hm, hl, hc⟩ := H
  obtain ⟨b1, b2, ⟨b3, b4⟩, b5, b6, b7⟩ := B
  refine ⟨⟨b1, b2, ⟨b3, e2⟩, b5, b6, fun s hs => ?_⟩, ho, ht, fun m hm' => ?_, fun k hk => ?_, hc⟩
  · rcases b7 s hs with q | ⟨q1, p, q2, q3⟩
    · exact Or.inl q
    · exact Or.inr ⟨q1, p, q2, q3.kk e⟩
  · rcases hm m hm' with q | ⟨q1, q2, q3, q4⟩
    · exact Or.inl q
    · refine Or.inr ⟨q1, q2, fun s hs => ?_, q4⟩
      obtain ⟨a, r, v, c, y, x1, x2, x3, x4, x5⟩ := q3 s hs
      refine ⟨a, r, v, c, y, x1, x2, x3, x4, ?_⟩
      rcases x5 with e' | ⟨e1, p, e2, e3⟩
      · exact Or.inl e'
      · exact Or.inr ⟨e1, p, e2, e3.kk e⟩
  · exact (hl k hk).oth (Nat.le_refl _) b4 (fun a _ h2 _ => ⟨⟨rfl, rfl⟩, e a h2, fun _ => rfl⟩) rfl rfl (fun _ _ => ⟨rfl, rfl⟩) (fun _ _ => rfl)
/-- the laws alone change -/
theorem Inv.law (h : Inv S I J P K n) (e : ∀ a, (a < 104 ∨ 109 < a) → I' a = I a) (eP : ∀ a, a ≠ 34 → P' a = P a) (lw : i_lw S I' P' K n) : Inv S I' J P' K n := by
  obtain ⟨B, ho, ht, hm, -, hc⟩ := h
  have n131 : 131 ≤ n := B.2.2.1.1
  have hK := B.2.2.1.2
  have hcg : h_cg I J I' J := fun a ha => by
    unfold h_hra at ha
    simp only [Bool.or_eq_true, Bool.and_eq_true, decide_eq_true_eq] at ha
    exact ⟨e a (by omega), rfl⟩
  have gp : ∀ p D, z_pg S I J P K n p D → z_pg S I' J P' K n p D := fun p D k => k.set (fun a ha => ⟨e a (by omega), rfl, eP a (by omega)⟩)
  have hP : z_Pt P' := by
    intro q hq
    have h1 : ∀ q ∈ z_pl, q.1 ≠ 34 := by decide
    rw [eP q.1 (h1 q hq)]; exact B.2.1 q hq
  obtain ⟨m1, m2, m3, m4, m5, m6, m7⟩ := B.2.2.2.1
  obtain ⟨c1, c2, c3, c4, c5⟩ := B.qC
  refine ⟨⟨B.1, hP, B.2.2.1, z_iM.set ⟨m1, m2, m3, m4, m5, m6, m7⟩ (fun a h1 h2 => ⟨e a (by omega), rfl⟩) (fun s hs => ?_) ?_ ?_ ?_ ?_, ?_, fun s hs => ?_⟩, ?_, ?_, ?_, lw, ?_⟩
  · unfold z_vi
    rw [e 87 (by omega)]; exact m2 s hs
  · rw [e 85 (by omega), e 86 (by omega), e 88 (by omega), e 89 (by omega)]; exact m4
  · rw [e 84 (by omega)]; exact m5
  · rw [e 101 (by omega)]; exact m6
  · rw [e 83 (by omega), e 103 (by omega)]; exact m7
  · refine ⟨?_, ?_, fun t k ht hk => ?_, ?_, ?_⟩
    · rw [e 14 (by omega), e 15 (by omega), e 16 (by omega), e 17 (by omega), e 85 (by omega), e 87 (by omega), e 88 (by omega), e 89 (by omega)]; exact c1
    · rw [e 19 (by omega), e 84 (by omega)]; exact c2
    · rw [e (29 + t) (by omega), e 101 (by omega)]; exact c3 t k ht hk
    · rw [e 33 (by omega), e 103 (by omega)]; exact c4
    · rw [e 27 (by omega), e 83 (by omega)]; exact c5
  · rw [z_th_w hcg, z_Ds_w hcg, eP 18 (by omega)]
    rcases B.pg hs with q | ⟨q1, p, q2, q3⟩
    · exact Or.inl q
    · exact Or.inr ⟨q1, p, q2, gp p _ q3⟩
  · exact ho.set hcg (fun a h1 h2 => e a (by omega))
  · unfold i_tp at ht ⊢
    rw [e 9 (by omega), e 83 (by omega), e 10 (by omega), e 99 (by omega)]; exact ht
  · exact hm.mono (fun a ha => ⟨e a (by omega), rfl, eP a (by omega)⟩) gp
  · obtain ⟨c1, c2, c3, c4, c5⟩ := hc
    exact ⟨c1, c2, by rw [e 1 (by omega)]; exact c3, by rw [e 7 (by omega)]; exact c4, by rw [e 4 (by omega)]; exact c5⟩
/-- after a call of LAW: X, Z what the class left, Y, W what the reference left then -/
theorem k_lend {k : Nat} (H : Inv S I J P K n) (hn : n ≤ n') (hK : ∀ a, a < n → K' a = K a) (hK2 : ∀ a, K' a = true → (70 < a ∧ a < 83) ∨ 131 ≤ a) (g : k_lc n S I J P S' X Z P') (x9 : X 9 1 = z_n 0) (l : k_lf k X Z Y W) (lw : ∀ j, j < 4 → i_l1 S' Y P' K' n' j) : Inv S' Y W P' K' n' := by
  have n131 : 131 ≤ n := H.1.2.2.1.1
  obtain ⟨l1, l2, l3, l4, l5, l6, l7⟩ := l
  have A : Inv S' (fun a => if a < n then I a else X a) (fun a => if a < n then J a else Z a) (fun a => if a < n then P a else P' a) K' n' :=
    (H.kk hK hK2).ag (fun a ha => ⟨⟨(g a ha).1, if_pos ha⟩, fun _ => ⟨if_pos ha, if_pos ha⟩⟩) hn
  have y : ∀ a, a < n → a ≠ 9 → a ≠ 83 → (a < 104 ∨ 109 < a) → Y a = I a ∧ W a = J a := fun a h1 h2 h3 h4 => ⟨(l1 a h3 h4).trans ((g a h1).2.2 h2).1, (l4 a h3).trans ((g a h1).2.2 h2).2⟩
  have z : ∀ a, n ≤ a → Y a = X a ∧ W a = Z a := fun a h1 => ⟨l1 a (by omega) (by omega), l4 a (by omega)⟩
  have B : Inv S' (fun a => if 104 ≤ a ∧ a ≤ 109 then (if a < n then I a else X a) else Y a) W (fun a => if a < n then P a else P' a) K' n' := by
    refine A.tape (fun a ha => ?_) ?_ ⟨0, by omega, ?_, ?_, fun i hi => absurd hi (by omega)⟩
    · constructor
      · by_cases q : 104 ≤ a ∧ a ≤ 109
        · exact if_pos q
        · rw [if_neg q]
          by_cases q2 : a < n
          · rw [if_pos q2]; exact (y a q2 (by omega) (by omega) (by omega)).1
          · rw [if_neg q2]; exact (z a (by omega)).1
      · by_cases q2 : a < n
        · rw [if_pos q2]
          exact (l4 a (by omega)).trans ((g a q2).2.2 (by omega)).2
        · rw [if_neg q2]; exact (z a (by omega)).2
    · rw [if_neg (by omega), if_pos (show 83 < n by omega), l3, ((g 83 (by omega)).2.2 (by omega)).1]
    · show (if 104 ≤ 9 ∧ 9 ≤ 109 then if 9 < n then I 9 else X 9 else Y 9) 1 = z_n 0
      rw [if_neg (by omega), l1 9 (by omega) (by omega)]; exact x9
    · show (if 104 ≤ 83 ∧ 83 ≤ 109 then if 83 < n then I 83 else X 83 else Y 83) 16 = z_n 0
      rw [if_neg (by omega)]; exact l2
  refine B.law (fun a ha => (if_neg (by omega)).symm) (fun a ha => ?_) lw
  by_cases q : a < n
  · rw [if_pos q]; exact (g a q).2.1 ha
  · rw [if_neg q]
/-- the other laws -/
theorem k_loth {k j : Nat} (H : Inv S I J P K n) (hn : n ≤ n') (hK : ∀ a, a < n → K' a = K a) (g : k_lc n S I J P S' X Z P') (e34 : P' 34 j = P 34 j) (l : k_lf k X Z Y W) (hj : j < 4) (ne : j ≠ k) : i_l1 S' Y P' K' n' j := by
  have n131 : 131 ≤ n := H.1.2.2.1.1
  obtain ⟨l1, l2, l3, l4, l5, l6, l7⟩ := l
  have x : ∀ a, 104 ≤ a → a ≤ 107 → X a = I a := fun a h1 h2 => ((g a (by omega)).2.2 (by omega)).1
  refine (H.2.2.2.2.1 j hj).oth hn H.1.2.2.1.2 (fun a h1 h2 h3 => ⟨⟨(g a h2).1, (g a h2).2.1 (by omega)⟩, hK a h2, fun _ => (l1 a (by omega) (by omega)).trans ((g a h2).2.2 (by omega)).1⟩) e34 ?_ (fun i hi => ⟨?_, ?_⟩) (fun i hi => ?_)
  · rw [l5 j hj ne, x 104 (by omega) (by omega)]
  · rw [(l6 (6 * j + i) (by omega) (by omega)).1, x 105 (by omega) (by omega)]
  · rw [(l6 (6 * j + i) (by omega) (by omega)).2, x 106 (by omega) (by omega)]
  · rw [l7 (1000 * j + i) (by omega) (by omega), x 107 (by omega) (by omega)]
end
section
variable {S S' : z_SH} {I X Y : z_MI} {J Z W : z_MJ} {P P' : z_MP} {K : Nat → Bool} {n : Nat × Nat}
def k_Kt (K : Nat → Bool) (n : Nat) : Nat → Bool := fun a => k_Kn K n a || decide (a = n + 3)
/-- the new law -/
theorem k_lnew {k T1 : Nat} {L : y_LL} (hn : 131 ≤ n.1) (T1' : T1 ≤ 1000) (lk : k_lk n.1 T1 k P S' X P' L) (l : k_lf k X Z Y W) (g1 : L.length ≤ 6) (g2 : ∀ x, x ∈ L → k_ec 32 x.1 x.2.2) (g3 : (y_fc L).length ≤ T1) (e104 : Y 104 k = z_n L.length) (lm : l_M k L.length (fun j => Y 105 (6 * k + j)) (fun j => Y 106 (6 * k + j)) (fun i => Y 107 (1000 * k + i)) (k_lw (k_mM L))) : i_l1 S' Y P' (k_Kt K n.1) (n.1 + 4) k := by
  obtain ⟨k1, ⟨k2, k3, k4, k5, k6⟩, ⟨k7, k8⟩, k9⟩ := lk
  have y : ∀ a, n.1 ≤ a → Y a = X a := fun a h => l.1 a (by omega) (by omega)
  have kf : ∀ a, n.1 ≤ a → a ≠ n.1 + 3 → k_Kt K n.1 a = false := fun a h1 h2 => by
    unfold k_Kt
    rw [k_Kn_n h1, decide_eq_false h2]; rfl
  have kt : k_Kt K n.1 (n.1 + 3) = true := by
    unfold k_Kt
    rw [decide_eq_true rfl, Bool.or_true]
  refine ⟨n.1 + 2, n.1 + 1, n.1 + 3, T1, (y_fc L).length, L.length, k_lw (k_mC L), by rw [k1, if_pos rfl], ⟨⟨by omega, by omega, by omega, kf _ (by omega) (by omega)⟩, ⟨by omega, by omega, by omega, kf _ (by omega) (by omega)⟩, by omega, by omega, kt⟩, ⟨k2, k3, k4, by rw [y _ (by omega)]; exact k5, by rw [y _ (by omega)]; exact k6, e104, g1⟩, ⟨k7, k8⟩, ?_, ?_⟩
  · refine l_C_of (L := k_mC L) (fun x hx => ?_) (by rw [k_fcc_C]) g3 T1' (fun j hj => ?_)
    · obtain ⟨u, hu, rfl⟩ := List.mem_map.mp hx
      exact g2 u hu
    · rw [y _ (by omega), k_fcc_C]; exact k9 j hj
  · rw [← k_lw_MC]; exact lm
set_option maxRecDepth 100000 in
set_option maxHeartbeats 4000000 in
theorem X_law_t (H : Inv S I J P K n.1) {k : Nat} (hk : k < 4) : z_call (f_Rs_law 8 (z_n k)) (f_Mo_law 83 (z_n k)) S I J P n := by
  have B := H.1
  have n131 : 131 ≤ n.1 := B.2.2.1.1
  have bK := B.2.2.1.2
  obtain ⟨T, hT1, hT2⟩ := k_tape H.2.2.1
  have T1' := hT1.1
  obtain ⟨O, G, C, M⟩ := y_lines (T := T) (r := n.1) (c := n.1 + 1) T1' 6 0 0 rfl (Nat.zero_le _)
  have c := C_law (k := k) B.qS B.qP n131 H.2.2.2.2.2 hk hT1 G C
  have st : ∀ {S' : z_SH} {X : z_MI} {Z : z_MJ} {P' : z_MP}, k_lc n.1 S I J P S' X Z P' → z_St S' ∧ z_Pt P' ∧ k_hd (X 83 16) (X 99) T := fun {S' X Z P'} g => by
    refine ⟨B.qS.mono (S' := S') (I := I) (J := J) (P := P) (I' := I) (J' := J) (P' := P) (X := z_nil) (fun a ha => ⟨⟨(g a ha).1, rfl⟩, fun _ => ⟨rfl, rfl⟩⟩) n131, fun q hq => ?_, by rw [((g 83 (by omega)).2.2 (by omega)).1, ((g 99 (by omega)).2.2 (by omega)).1]; exact hT2⟩
    have h1 : ∀ q ∈ z_pl, q.1 ≠ 34 ∧ q.1 < 131 := by decide
    rw [(g q.1 (by have := (h1 q hq).2; omega)).2.1 (h1 q hq).1]; exact B.qP q hq
  rcases O with F | L
  · obtain ⟨S', X, Z, P', a1, a2, a3, a4⟩ := c
    obtain ⟨hS, hP, hT⟩ := st a2
    obtain ⟨Y, W, b1, b2⟩ := M_law (J := Z) (n := (n.1 + 2, n.2 + 5 + T.1)) hS hP hk hT G M
    have hK : ∀ a, a < n.1 → k_Kn K n.1 a = K a := fun a ha => by unfold k_Kn; rw [decide_eq_true ha, Bool.and_true]
    exact ⟨_, S', X, Z, P', _, k_Kn K n.1, Y, W, a1, b1, ⟨by show n.1 ≤ n.1 + 2; omega, by show n.1 + 2 ≤ n.1 + 60; omega, by show n.2 + 5 + T.1 ≤ n.2 + 3000; omega⟩, k_lend H (by show n.1 ≤ n.1 + 2; omega) hK (fun a ha => bK a (by unfold k_Kn at ha; exact (Bool.and_eq_true _ _ ▸ ha).1)) a2 a3 b2 (fun j hj => k_loth H (by show n.1 ≤ n.1 + 2; omega) hK a2 (by rw [a4]) b2 hj (by omega))⟩
  · obtain ⟨S', X, Z, P', a1, a2, a3, a4⟩ := c
    obtain ⟨hS, hP, hT⟩ := st a2
    obtain ⟨Y, W, b1, b2, b3, b4⟩ := M_law (J := Z) (n := (n.1 + 4, n.2 + 5 + T.1 + 36)) hS hP hk hT G M
    obtain ⟨g1, g2, g3, g4⟩ := G
    have hK : ∀ a, a < n.1 → k_Kt K n.1 a = K a := fun a ha => by unfold k_Kt k_Kn; rw [decide_eq_true ha, Bool.and_true, decide_eq_false (by omega), Bool.or_false]
    have hK2 : ∀ a, k_Kt K n.1 a = true → (70 < a ∧ a < 83) ∨ 131 ≤ a := fun a ha => by
      unfold k_Kt at ha
      rcases (Bool.or_eq_true _ _ ▸ ha) with q | q
      · exact bK a (by unfold k_Kn at q; exact (Bool.and_eq_true _ _ ▸ q).1)
      · exact Or.inr (by have := of_decide_eq_true q; omega)
    refine ⟨_, S', X, Z, P', _, k_Kt K n.1, Y, W, a1, b1, ⟨by show n.1 ≤ n.1 + 4; omega, by show n.1 + 4 ≤ n.1 + 60; omega, by show n.2 + 5 + T.1 + 36 ≤ n.2 + 3000; omega⟩, k_lend H (by show n.1 ≤ n.1 + 4; omega) hK hK2 a2 a3 b2 (fun j hj => ?_)⟩
    by_cases q : j = k
    · subst q
      exact k_lnew n131 T1' a4 b2 (by omega) (fun x hx => (g2 x hx).1) (by omega) b3 b4
    · exact k_loth H (by show n.1 ≤ n.1 + 4; omega) hK a2 (by rw [a4.1, if_neg q]) b2 hj q
set_option maxRecDepth 100000 in
set_option maxHeartbeats 4000000 in
theorem X_law_no (H : Inv S I J P K n.1) (s : Int32) (h : z_o s 3) : z_call (f_Rs_law 8 s) (f_Mo_law 83 s) S I J P n := by
  have B := H.1
  have hS := B.qS
  have hP := B.qP
  obtain ⟨T, hT1, hT2⟩ := k_tape H.2.2.1
  have g0 : q_gr (q_gf (z_h S I J P n) 0 8 0) = some 9 := z_gr (s_8 hS) rfl (p_8_0 hP)
  have w9 : ∀ v, q_sf (z_h S I J P n) 1 9 1 (.int v) = some (z_h S (z_up I 9 1 v) J P n) := fun _ => z_sfi (s_9 hS) (by decide) rfl
  have om := fun I J => z_ob (I := I) (J := J) (P := P) (n := n) (s_83 hS)
  obtain ⟨X, Z, a1, a2, a3, a4, a5, -, -⟩ := M_starts (I := z_up (z_up I 9 1 (z_n 0)) 83 0 (z_n 0)) (J := J) (n := n) hS hP (T := T) (by
    rw [z_up_i (by decide), z_ups (by decide), z_ups (by decide), z_ups (by decide)]; exact hT2)
  have e : ∀ a, a ≠ 9 → a ≠ 83 → X a = I a := fun a h h' => by rw [a2 a h', z_ups h', z_ups h]
  have c : f_Rs_law 8 s (z_h S I J P n) = some (-z_n 1, z_h S (z_up I 9 1 (z_n 0)) J P n) := by
    unfold f_Rs_law
    rw [show (0 : Int32) = z_n 0 from rfl, show (3 : Int32) = z_n 3 from rfl, C_out h, z_sq, if_pos rfl, g0, Option.bind_some, w9, Option.bind_some]
    rfl
  have m : f_Mo_law 83 s (z_h S (z_up I 9 1 (z_n 0)) J P n) = some (-z_n 1, z_h S X Z P n) := by
    unfold f_Mo_law
    rw [show (0 : Int32) = z_n 0 from rfl, M_thr hS, Option.bind_some, om, Option.bind_some, a1, z_sq, M_isTable_o h, z_sq, if_pos rfl]
    rfl
  refine ⟨_, _, _, _, _, _, K, _, _, c, m, ⟨by omega, by omega, by omega⟩, H.tape (fun a ha => ⟨e a (by omega) (by omega), a3 a (by omega)⟩) ?_ ⟨0, by omega, ?_, a4, fun i hi => absurd hi (by omega)⟩⟩
  · rw [a5, z_up_i (by decide), z_ups (by decide)]
  · rw [a2 9 (by decide), z_ups (by decide)]; exact z_up_s _ _ _ _
theorem X_law (H : Inv S I J P K n.1) (s : Int32) : z_call (f_Rs_law 8 s) (f_Mo_law 83 s) S I J P n := by
  rcases z_in s 3 (by omega) with ⟨k, hk, rfl⟩ | h
  · exact X_law_t H (by omega)
  · exact X_law_no H s h
end
