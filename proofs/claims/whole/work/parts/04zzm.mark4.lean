/-! MARKS: the pair. -/
section
variable {S : z_SH} {I I' : z_MI} {J J' : z_MJ} {P P' : z_MP} {K : Nat → Bool} {n : Nat}
theorem z_Pt.pages (hP : z_Pt P) (eP : ∀ a, a ≠ 18 → a ≠ 48 → a ≠ 55 → a ≠ 62 → a ≠ 69 → P' a = P a) : z_Pt P' := by
  intro q hq
  have h1 : ∀ q ∈ z_pl, q.1 ≠ 18 ∧ q.1 ≠ 48 ∧ q.1 ≠ 55 ∧ q.1 ≠ 62 ∧ q.1 ≠ 69 := by decide
  obtain ⟨a, b, c, d, f⟩ := h1 q hq
  rw [eP q.1 a b c d f]; exact hP q hq
theorem Inv.setm (h : Inv S I J P K n) (e : ∀ a, (a < 13 ∨ (70 < a ∧ a < 83) ∨ a = 99 ∨ (104 ≤ a ∧ a ≤ 107) ∨ 130 ≤ a) → I' a = I a ∧ J' a = J a) (e16 : I' 83 16 = I 83 16) (eP : ∀ a, a ≠ 18 → a ≠ 48 → a ≠ 55 → a ≠ 62 → a ≠ 69 → P' a = P a) (iM : z_iM I' J') (iC : z_iC I') (ho : h_ok I' J') (hp : ∀ s, s < 24 → (z_th I' s = false ∧ P' 18 s = none) ∨ (z_th I' s = true ∧ ∃ p, P' 18 s = some p ∧ z_pg S I J P K n p (z_Ds I' J' s))) (hm : (∀ p D, z_pg S I J P K n p D → z_pg S I' J' P' K n p D) → i_mk S I' J' P' K n) : Inv S I' J' P' K n := by
  obtain ⟨B, -, ht, -, hl, hc⟩ := h
  have n131 : 131 ≤ n := B.2.2.1.1
  have hK := B.2.2.1.2
  have gp : ∀ p D, z_pg S I J P K n p D → z_pg S I' J' P' K n p D := fun p D k => k.set (fun a ha => ⟨(e a (by omega)).1, (e a (by omega)).2, eP a (by omega) (by omega) (by omega) (by omega) (by omega)⟩)
  refine ⟨⟨B.1, B.2.1.pages eP, B.2.2.1, iM, iC, fun s hs => ?_⟩, ho, ?_, hm gp, ?_, ?_⟩
  · rcases hp s hs with k | ⟨k1, p, k2, k3⟩
    · exact Or.inl k
    · exact Or.inr ⟨k1, p, k2, gp p _ k3⟩
  · obtain ⟨N, t1, t2, t3, t4⟩ := ht
    exact ⟨N, t1, by rw [(e 9 (by omega)).1]; exact t2, e16.trans t3, fun i hi => by rw [(e 10 (by omega)).1, (e 99 (by omega)).1]; exact t4 i hi⟩
  · exact hl.mono (Nat.le_refl _) (eP 34 (by omega) (by omega) (by omega) (by omega) (by omega)) ⟨(e 104 (by omega)).1, (e 105 (by omega)).1, (e 106 (by omega)).1, (e 107 (by omega)).1⟩ (fun a h1 h2 h3 => ⟨⟨rfl, eP a (by omega) (by omega) (by omega) (by omega) (by omega)⟩, fun _ => (e a (by omega)).1⟩) hK
  · obtain ⟨c1, c2, c3, c4, c5⟩ := hc
    refine ⟨fun i hi => by rw [(e 11 (by omega)).2]; exact c1 i hi, fun i hi => by rw [(e 12 (by omega)).2]; exact c2 i hi, fun i hi => by rw [(e 1 (by omega)).1]; exact c3 i hi, fun i hi => by rw [(e 7 (by omega)).1]; exact c4 i hi, by rw [(e 4 (by omega)).1]; exact c5⟩
end
theorem z_o01 {x : Int32} (h : x = z_n 0 ∨ x = z_n 1) : ∃ a, a ≤ 1 ∧ x = z_n a := by
  rcases h with h | h
  · exact ⟨0, by omega, h⟩
  · exact ⟨1, by omega, h⟩
section
variable {S : z_SH} {I : z_MI} {J : z_MJ} {P : z_MP} {K : Nat → Bool} {n : Nat × Nat}
theorem C_mk (hS : z_St S) (hP : z_Pt P) {m : Nat} (hm : m < 4) : (∀ I J, q_gr (q_gf (z_h S I J P n) 0 8 4) = some 20) ∧ (∀ I J, q_gr (q_ga (z_h S I J P n) 26 20 (z_n m)) = some (43 + 7 * m)) ∧ (∀ I J, q_gr (q_gf (z_h S I J P n) 0 8 5) = some 21) ∧ (∀ I J, q_gi (q_ga (z_h S I J P n) 22 21 (z_n m)) = some (I 21 m)) ∧ (∀ I J v, q_sa (z_h S I J P n) 22 21 (z_n m) (.int v) = some (z_h S (z_up I 21 m v) J P n)) ∧ (∀ I J, q_ob (z_h S I J P n) 2 (43 + 7 * m) = some (z_vs I J P (43 + 7 * m) [2, 2, 2, 2, 2, 2])) := by
  have h4 : m = 0 ∨ m = 1 ∨ m = 2 ∨ m = 3 := by omega
  refine ⟨fun _ _ => z_gr (s_8 hS) rfl (p_8_4 hP), fun _ _ => z_gra (s_20 hS) (by omega) (z_rpl hm) ?_, fun _ _ => z_gr (s_8 hS) rfl (p_8_5 hP), fun _ _ => z_gia (s_21 hS) (by omega) (z_rpl hm), fun _ _ _ => z_sai (s_21 hS) (by decide) (by omega) (z_rpl hm), fun _ _ => z_ob (z_shfm hS hP hm).1⟩
  rcases h4 with rfl | rfl | rfl | rfl
  · exact p_20_0 hP
  · exact p_20_1 hP
  · exact p_20_2 hP
  · exact p_20_3 hP
set_option maxRecDepth 100000 in
set_option maxHeartbeats 4000000 in
theorem X_mark_keep (H : Inv S I J P K n.1) {m : Nat} (hm : m < 4) : z_call (f_Rs_mark 8 (z_n m) (z_n 0)) (f_Mo_mark 83 (z_n m) (z_n 0)) S I J P n := by
  have B := H.1
  have hS := B.qS
  have hP := B.qP
  obtain ⟨m1, m2, m3, m4, m5, m6, m7⟩ := B.2.2.2.1
  obtain ⟨c1, c2, c3, c4, c5⟩ := B.qC
  obtain ⟨o1, o2, o3, o4, o5⟩ := C_hob (n := n) hS hP
  obtain ⟨k1, k2, k3, k4, k5, k6⟩ := C_mk (n := n) hS hP hm
  obtain ⟨Y, Q, a1, a2, a3, a4, a5, a6⟩ := C_copy (I := I) (J := J) (n := n) (z_shfm hS hP hm) (z_shf13 hS hP) (by omega) (by omega) (fun j hj => by rw [(c1 j hj).1]; exact (m4 j hj).1) (fun j hj => by
    rcases B.pg hj with ⟨h1, h2⟩ | ⟨h1, p, h2, h3⟩
    · exact Or.inl h2
    · exact Or.inr ⟨p, _, h2, h3.2.1.1⟩)
  have hQ : z_Pt Q := hP.pages (fun a h1 h2 h3 h4 h5 => a5 a (by omega))
  obtain ⟨-, -, q3, -, q5, -⟩ := C_mk (n := n) hS hQ hm
  have om := fun I J => z_ob (I := I) (J := J) (P := Q) (n := n) (s_83 hS)
  obtain ⟨Y2, Z2, b1, b2, b3, b4, b5, b6, b7⟩ := M_keeps (I := z_up (z_up Y 21 m (z_n 1)) 83 0 (z_n 0)) (J := J) (n := n) hS hQ hm
  have w125 : ∀ I J v, q_sa (z_h S I J Q n) 22 125 (z_n m) (.int v) = some (z_h S (z_up I 125 m v) J Q n) := fun _ _ _ => z_sai (s_125 hS) (by decide) (by omega) (z_rpl hm)
  refine ⟨z_n 1, S, z_up Y 21 m (z_n 1), J, Q, n, K, z_up Y2 125 m (z_n 1), Z2, ?_, ?_, ⟨by omega, by omega, by omega⟩, ?_⟩
  · simp (disch := omega) only [f_Rs_mark, C_in, k1, k2, o2, k6, a1, q3, q5, or_true, true_or, or_false, false_or, z_b_T, z_b_F, Bool.false_eq_true, Classical.not_not, decide_eq_true_eq, z_sq, Option.bind_some, z_lits, z_n_add, z_n_mul, z_lt, z_le, z_eq, z_ne1, z_1ne, z_lt1, z_1lt, z_ltT, z_ltF, z_leT, z_leF, z_eqF, z_b_0, z_b_1, ↓reduceIte, eq_self, not_true_eq_false, not_false_eq_true, and_true, true_and, and_false, false_and, Nat.add_zero, Nat.zero_add]
  · simp (disch := omega) only [f_Mo_mark, M_thr hS, M_win, om, b1, z_Mr hS hQ, w125, or_true, true_or, or_false, false_or, z_b_T, z_b_F, Bool.false_eq_true, Classical.not_not, decide_eq_true_eq, z_sq, Option.bind_some, z_lits, z_n_add, z_n_mul, z_lt, z_le, z_eq, z_ne1, z_1ne, z_lt1, z_1lt, z_ltT, z_ltF, z_leT, z_leF, z_eqF, z_b_0, z_b_1, ↓reduceIte, eq_self, not_true_eq_false, not_false_eq_true, and_true, true_and, and_false, false_and, Nat.add_zero, Nat.zero_add]
  have eY : ∀ a, ¬ (43 + 7 * m < a ∧ a ≤ 49 + 7 * m) → a ≠ 21 → a ≠ 83 → a ≠ 125 → (a < 126 ∨ 128 < a) → z_up Y2 125 m (z_n 1) a = I a := by
    intro a h1 h2 h3 h4 h5
    rw [z_ups h4, b2 a h5, z_ups h3, z_ups h2, a2 a (by omega)]
  have e83 : ∀ i, i ≠ 0 → z_up Y2 125 m (z_n 1) 83 i = I 83 i := by
    intro i hi
    rw [z_ups (by decide), b2 83 (by omega), z_up_e, if_neg hi, z_ups (by decide), a2 83 (by omega)]
  have e21 : ∀ i, z_up Y2 125 m (z_n 1) 21 i = if i = m then z_n 1 else I 21 i := by
    intro i
    rw [z_ups (by decide), b2 21 (by omega), z_ups (by decide), z_up_e, a2 21 (by omega)]
  have e125 : ∀ i, z_up Y2 125 m (z_n 1) 125 i = if i = m then z_n 1 else I 125 i := by
    intro i
    rw [z_up_e, b2 125 (by omega), z_ups (by decide), z_ups (by decide), a2 125 (by omega)]
  have base : ∀ a, 84 ≤ a → a ≤ 98 → z_up (z_up Y 21 m (z_n 1)) 83 0 (z_n 0) a = I a := by
    intro a h1 h2
    rw [z_ups (by omega), z_ups (by omega), a2 a (by omega)]
  have eK : ∀ k, 1 ≤ k → k ≤ 4 → ∀ j, j < 24 → z_up Y2 125 m (z_n 1) (43 + 7 * m + k) j = I (13 + k) j := by
    intro k h1 h2 j hj
    rw [z_ups (by omega), b2 _ (by omega), z_ups (by omega), z_ups (by omega)]
    exact a3 k h1 h2 j hj
  have e49 : ∀ j, j < 6 → z_up Y2 125 m (z_n 1) (49 + 7 * m) j = I 19 j := by
    intro j hj
    rw [z_ups (by omega), b2 _ (by omega), z_ups (by omega), z_ups (by omega)]
    have := a4 j hj
    rw [show 43 + 7 * m + 6 = 49 + 7 * m by omega] at this
    exact this
  have e126 : ∀ j, z_up Y2 125 m (z_n 1) 126 j = if 6 * m ≤ j ∧ j < 6 * m + 6 then I 84 (j - 6 * m) else I 126 j := by
    intro j
    rw [z_ups (by decide), b4, base 84 (by omega) (by omega), z_ups (by decide), z_ups (by decide), a2 126 (by omega)]
  have e127 : ∀ s k, s < 24 → k < 6 → z_up Y2 125 m (z_n 1) 127 (144 * m + 6 * s + k) = k_f6 I s k := by
    intro s k h1 h2
    rw [z_ups (by decide), b5, if_pos (by omega), show (144 * m + 6 * s + k - 144 * m) / 6 = s by omega, show (144 * m + 6 * s + k - 144 * m) % 6 = k by omega]
    unfold k_f6
    rw [base 85 (by omega) (by omega), base 86 (by omega) (by omega), base (85 + k) (by omega) (by omega)]
  have e127' : ∀ j, ¬ (144 * m ≤ j ∧ j < 144 * m + 144) → z_up Y2 125 m (z_n 1) 127 j = I 127 j := by
    intro j hj
    rw [z_ups (by decide), b5, if_neg hj, z_ups (by decide), z_ups (by decide), a2 127 (by omega)]
  have e128 : ∀ l k, l < 288 → k < 5 → z_up Y2 125 m (z_n 1) 128 (1440 * m + 5 * l + k) = I (91 + k) l := by
    intro l k h1 h2
    rw [z_ups (by decide), b6, if_pos (by omega), show (1440 * m + 5 * l + k - 1440 * m) / 5 = l by omega, show (1440 * m + 5 * l + k - 1440 * m) % 5 = k by omega, base (91 + k) (by omega) (by omega)]
  have e128' : ∀ j, ¬ (1440 * m ≤ j ∧ j < 1440 * m + 1440) → z_up Y2 125 m (z_n 1) 128 j = I 128 j := by
    intro j hj
    rw [z_ups (by decide), b6, if_neg hj, z_ups (by decide), z_ups (by decide), a2 128 (by omega)]
  have e129 : ∀ l k, l < 288 → k < 3 → Z2 129 (864 * m + 3 * l + k) = J (96 + k) l := by
    intro l k h1 h2
    rw [b7, if_pos (by omega), show (864 * m + 3 * l + k - 864 * m) / 3 = l by omega, show (864 * m + 3 * l + k - 864 * m) % 3 = k by omega]
  have e129' : ∀ j, ¬ (864 * m ≤ j ∧ j < 864 * m + 864) → Z2 129 j = J 129 j := by
    intro j hj
    rw [b7, if_neg hj]
  generalize z_up Y2 125 m (z_n 1) = W at *
  have hc : h_cg I J W Z2 := fun a ha => by
    unfold h_hra at ha
    simp only [Bool.or_eq_true, Bool.and_eq_true, decide_eq_true_eq] at ha
    exact ⟨eY a (by omega) (by omega) (by omega) (by omega) (by omega), b3 a (by omega)⟩
  refine H.setm (fun a ha => ⟨eY a (by omega) (by omega) (by omega) (by omega) (by omega), b3 a (by omega)⟩) (e83 16 (by decide)) (fun a h1 h2 h3 h4 h5 => a5 a (by omega)) (z_iM.set B.2.2.2.1 (fun a h1 h2 => ⟨eY a (by omega) (by omega) (by omega) (by omega) (by omega), b3 a (by omega)⟩) (fun s hs => ?_) (fun s hs => ?_) (fun u hu => ?_) (fun i hi => ?_) ?_) ⟨fun s hs => ?_, fun u hu => ?_, fun t' k' ht' hk' => ?_, fun i hi => ?_, ?_⟩ (H.2.1.set hc (fun a h1 h2 => eY a (by omega) (by omega) (by omega) (by omega) (by omega))) (fun s hs => ?_) (fun gp m' hm' => ?_)
  · rw [z_vi_w hc, hc.i 87 rfl]; exact m2 s hs
  · rw [hc.i 85 rfl, hc.i 86 rfl, hc.i 88 rfl, eY 89 (by omega) (by omega) (by omega) (by omega) (by omega)]; exact m4 s hs
  · rw [eY 84 (by omega) (by omega) (by omega) (by omega) (by omega)]; exact m5 u hu
  · rw [eY 101 (by omega) (by omega) (by omega) (by omega) (by omega)]; exact m6 i hi
  · rw [e83 32 (by decide), eY 103 (by omega) (by omega) (by omega) (by omega) (by omega)]; exact m7
  · rw [eY 14 (by omega) (by omega) (by omega) (by omega) (by omega), eY 15 (by omega) (by omega) (by omega) (by omega) (by omega), eY 16 (by omega) (by omega) (by omega) (by omega) (by omega), eY 17 (by omega) (by omega) (by omega) (by omega) (by omega), hc.i 85 rfl, hc.i 87 rfl, hc.i 88 rfl, eY 89 (by omega) (by omega) (by omega) (by omega) (by omega)]; exact c1 s hs
  · rw [eY 19 (by omega) (by omega) (by omega) (by omega) (by omega), eY 84 (by omega) (by omega) (by omega) (by omega) (by omega)]; exact c2 u hu
  · rw [eY (29 + t') (by omega) (by omega) (by omega) (by omega) (by omega), eY 101 (by omega) (by omega) (by omega) (by omega) (by omega)]; exact c3 t' k' ht' hk'
  · rw [eY 33 (by omega) (by omega) (by omega) (by omega) (by omega), eY 103 (by omega) (by omega) (by omega) (by omega) (by omega)]; exact c4 i hi
  · rw [eY 27 (by omega) (by omega) (by omega) (by omega) (by omega), e83 32 (by decide)]; exact c5
  · rw [z_th_w hc, z_Ds_w hc, a5 18 (by omega)]; exact B.2.2.2.2.2 s hs
  · rw [e21, e125]
    by_cases q : m' = m
    · subst q
      rw [if_pos rfl, if_pos rfl]
      refine Or.inr ⟨rfl, rfl, fun s hs => ?_, fun v hv => ?_⟩
      · obtain ⟨t1, t2, t3, ⟨cc, t4, t5⟩, ⟨yy, t6, t7⟩⟩ := m4 s hs
        obtain ⟨x1, x2, x3, x4⟩ := c1 s hs
        obtain ⟨v1, v2⟩ := m2 s hs
        obtain ⟨l1, l2⟩ := m1 s (by omega)
        obtain ⟨aa, u1, u2⟩ := z_o01 t1
        obtain ⟨rr, u3, u4⟩ := z_o01 t2
        have f0 : k_f6 I s 0 = z_n aa := by
          show (if I 85 s = z_n 0 then z_n 0 else z_n 1) = _
          rcases t1 with t1 | t1
          · rw [if_pos t1, ← u2, t1]
          · rw [if_neg (by rw [t1]; decide), ← u2, t1]
        have f1 : k_f6 I s 1 = z_n rr := by
          show (if I 86 s = z_n 0 then z_n 0 else z_n 1) = _
          rcases t2 with t2 | t2
          · rw [if_pos t2, ← u4, t2]
          · rw [if_neg (by rw [t2]; decide), ← u4, t2]
        have f5 : W 127 (144 * m' + 6 * s + 5) = z_n (z_ln I s) := by rw [e127 s 5 hs (by omega)]; exact l1
        have dm1 : (z_Dm W Z2 m' s).1 = z_ln I s := by
          show (W 127 (144 * m' + 6 * s + 5)).toNatClampNeg = _
          rw [f5, z_n_nat (by omega)]
        have de : d_eq (z_Ds I J s) (z_Dm W Z2 m' s) := by
          refine ⟨dm1.symm, fun l hl => ⟨fun k hk => ?_, fun k hk => ?_⟩⟩
          · have hl' : l < z_ln I s := hl
            show (if k < 5 then I (91 + k) (12 * s + l) else z_n 0) = if k < 5 then W 128 (1440 * m' + 5 * (12 * s + l) + k) else z_n 0
            rw [if_pos hk, if_pos hk, e128 _ k (by omega) hk]
          · have hl' : l < z_ln I s := hl
            show (if k < 3 then J (96 + k) (12 * s + l) else 0) = if k < 3 then Z2 129 (864 * m' + 3 * (12 * s + l) + k) else 0
            rw [if_pos hk, if_pos hk, e129 _ k (by omega) hk]
        refine ⟨aa, rr, z_vi I s, cc, yy, ⟨u1, u3, fun h => ?_, v2, t5, t7⟩, ⟨?_, ?_, ?_, ?_⟩, ⟨(e127 s 0 hs (by omega)).trans f0, (e127 s 1 hs (by omega)).trans f1, (e127 s 2 hs (by omega)).trans v1, (e127 s 3 hs (by omega)).trans t4, (e127 s 4 hs (by omega)).trans t6, by rw [dm1]; exact f5⟩, de.ok (m3 s hs), ?_⟩
        · rw [h] at u4
          have := t3 u4
          rw [u2, z_eq (by omega) (by omega)] at this; exact this
        · have := eK 1 (by omega) (by omega) s hs
          rw [show 43 + 7 * m' + 1 = 44 + 7 * m' by omega] at this
          rw [this, x1, u2]
        · have := eK 2 (by omega) (by omega) s hs
          rw [show 43 + 7 * m' + 2 = 45 + 7 * m' by omega] at this
          rw [this, x2, v1]
        · have := eK 3 (by omega) (by omega) s hs
          rw [show 43 + 7 * m' + 3 = 46 + 7 * m' by omega] at this
          rw [this, x3, t4]
        · have := eK 4 (by omega) (by omega) s hs
          rw [show 43 + 7 * m' + 4 = 47 + 7 * m' by omega] at this
          rw [this, x4, t6]
        · have pp := a6 s hs
          rw [show 43 + 7 * m' + 5 = 48 + 7 * m' by omega] at pp
          rw [pp]
          have hth : z_th I s = true ↔ rr = 1 := by
            unfold z_th
            rw [decide_eq_true_eq]
            constructor
            · intro h
              have h2 := h.2
              rw [u4, z_eq (by omega) (by omega)] at h2; omega
            · intro h
              rw [h] at u4
              exact ⟨by rw [t3 u4]; decide, by rw [u4]; decide⟩
          rcases B.pg hs with ⟨h1, h2⟩ | ⟨h1, p, h2, h3⟩
          · refine Or.inl ⟨?_, h2⟩
            by_cases e : rr = 1
            · rw [hth.mpr e] at h1; cases h1
            · omega
          · exact Or.inr ⟨hth.mp h1, p, h2, (gp p _ h3).deq de (m3 s hs)⟩
      · rw [e49 v hv, e126, if_pos (by omega), show 6 * m' + v - 6 * m' = v by omega]
        exact ⟨c2 v hv, m5 v hv⟩
    · rw [if_neg q, if_neg q]
      rcases H.2.2.2.1 m' hm' with h | ⟨h1, h2, h3, h4⟩
      · exact Or.inl h
      · refine Or.inr ⟨h1, h2, fun s hs => ?_, fun v hv => ?_⟩
        · obtain ⟨a, r, v, c, y, g1, g2, g3, g4, g5⟩ := h3 s hs
          have f127 : ∀ k, k < 6 → W 127 (144 * m' + 6 * s + k) = I 127 (144 * m' + 6 * s + k) := fun k hk => e127' _ (by omega)
          have dm1 : (z_Dm W Z2 m' s).1 = (z_Dm I J m' s).1 := by
            show (W 127 (144 * m' + 6 * s + 5)).toNatClampNeg = (I 127 (144 * m' + 6 * s + 5)).toNatClampNeg
            rw [f127 5 (by omega)]
          have d12 := g4.1
          have de : d_eq (z_Dm I J m' s) (z_Dm W Z2 m' s) := by
            refine ⟨dm1.symm, fun l hl => ⟨fun k hk => ?_, fun k hk => ?_⟩⟩
            · show (if k < 5 then I 128 (1440 * m' + 5 * (12 * s + l) + k) else z_n 0) = if k < 5 then W 128 (1440 * m' + 5 * (12 * s + l) + k) else z_n 0
              rw [e128' _ (by omega)]
            · show (if k < 3 then J 129 (864 * m' + 3 * (12 * s + l) + k) else 0) = if k < 3 then Z2 129 (864 * m' + 3 * (12 * s + l) + k) else 0
              rw [e129' _ (by omega)]
          refine ⟨a, r, v, c, y, g1, ?_, ?_, de.ok g4, ?_⟩
          · rw [eY (44 + 7 * m') (by omega) (by omega) (by omega) (by omega) (by omega), eY (45 + 7 * m') (by omega) (by omega) (by omega) (by omega) (by omega), eY (46 + 7 * m') (by omega) (by omega) (by omega) (by omega) (by omega), eY (47 + 7 * m') (by omega) (by omega) (by omega) (by omega) (by omega)]; exact g2
          · rw [dm1]
            have f0 := f127 0 (by omega)
            rw [Nat.add_zero] at f0
            rw [f0, f127 1 (by omega), f127 2 (by omega), f127 3 (by omega), f127 4 (by omega), f127 5 (by omega)]; exact g3
          · rw [a5 (48 + 7 * m') (by omega)]
            rcases g5 with g5 | ⟨g5, p, g6, g7⟩
            · exact Or.inl g5
            · exact Or.inr ⟨g5, p, g6, (gp p _ g7).deq de g4⟩
        · rw [eY (49 + 7 * m') (by omega) (by omega) (by omega) (by omega) (by omega), e126, if_neg (by omega)]; exact h4 v hv
end
