/-! LETS, FAILS, FITTEST, APART: the pairs. -/
def l_R (K : Nat → Bool) (I X : z_MI) : Prop := ∀ a, z_x0 K a = false → X a = I a
def l_Q (I X : z_MI) : Prop := ∀ a, ¬ (110 ≤ a ∧ a ≤ 119) → X a = I a
def l_P (S : z_SH) (I : z_MI) (J : z_MJ) (P : z_MP) (K : Nat → Bool) (n : Nat × Nat) (k : Nat) (y : Nat × (l_V → Bool)) : Prop :=
  P 34 k = some y.1 ∧ S y.1 = some (6, [2, 0, 0, 2]) ∧ (∀ X v, l_R K I X → (∀ j, j < 13 → X 35 j = v j) → ∃ X', f_La_allows y.1 35 (z_h S X J P n) = some (z_b (y.2 v = true), z_h S X' J P n) ∧ l_R K I X' ∧ X' 35 = X 35) ∧
    ∀ X, z_cg I J X J → ∀ v, (∀ j, j < 13 → X 119 (j + 1) = v j) → ∃ Z, f_Mo_isLet_L204 83 (z_n k) q_FU (z_n (6 * k)) (z_h S X J P n) = some ((if y.2 v = true then Sum.inl (z_n 1) else Sum.inr ()), z_h S Z J P n) ∧ ∀ a, ¬ (110 ≤ a ∧ a ≤ 118) → Z a = X a
def l_v (I : z_MI) (J : z_MJ) (s l : Nat) : l_V := d_fc (z_Ds I J s) (I 87 s) (I 84 (z_vi I s)) (I 88 s) l
def l_u1 (I : z_MI) (J : z_MJ) (w1 w2 : l_V → Bool) (s l : Nat) : Nat := if z_wf I s l = true ∧ w1 (l_v I J s l) = true ∧ ¬ w2 (l_v I J s l) = true then 1 else 0
def l_un (I : z_MI) (J : z_MJ) (w1 w2 : l_V → Bool) (N : Nat) : Nat := z_sum N fun s => if z_th I s = true then z_sum (z_ln I s) (l_u1 I J w1 w2 s) else 0
section
variable {S : z_SH} {I X Y : z_MI} {J : z_MJ} {P : z_MP} {K : Nat → Bool} {n : Nat × Nat}
theorem l_un_le (B : z_B S I J P K n.1) (w1 w2 : l_V → Bool) : l_un I J w1 w2 24 ≤ 288 := by
  refine z_sum_le _ 12 24 (fun s hs => ?_)
  have l12 : z_ln I s ≤ 12 := (B.qD hs).1
  have := z_sum_le (l_u1 I J w1 w2 s) 1 (z_ln I s) (fun l _ => by unfold l_u1; split <;> omega)
  split <;> omega
theorem l_use (H : Inv S I J P K n.1) {k : Nat} (hk : k < 4) : ∃ y, l_P S I J P K n k y := by
  obtain ⟨q, c, t, m, z, N, w, h1, ⟨⟨q1, q2, q3, q4⟩, ⟨c1, c2, c3, c4⟩, t1, t2, t3⟩, ⟨h2, h3, h4, h5, h6, h7, h8⟩, ⟨h9, h10⟩, h11, h12⟩ := H.2.2.2.2.1 k hk
  have B := H.1
  have hK := B.2.2.1.2
  have x0 : ∀ a, K a = false → (a < 35 ∨ 42 < a) → z_x0 K a = false := by
    intro a h1 h2
    unfold z_x0
    simp only [h1, Bool.false_or, Bool.and_eq_false_iff, decide_eq_false_iff_not]
    omega
  have hx : z_x0 K t = true := by unfold z_x0; rw [t3, Bool.true_or]
  have ht := hK t t3
  refine ⟨(q, w), h1, h2, fun X v hX hv => ?_, fun X c v hv => ?_⟩
  · have eq := hX q (x0 q q4 (by omega))
    have ec := hX c (x0 c c4 (by omega))
    obtain ⟨X', a1, a2⟩ := h11 S X J P n v B.qS h2 h3 h4 (by rw [eq]; exact h5) h9 (fun i hi => by rw [ec]) h10 ⟨t1, (fun e => by rw [e, q4] at t3; cases t3), (fun e => by rw [e, c4] at t3; cases t3), by omega⟩ hv
    refine ⟨X', a1, fun a ha => ?_, a2 35 (by omega)⟩
    rw [a2 a (fun e => by rw [e, hx] at ha; cases ha)]
    exact hX a ha
  · exact h12 S X J P n v B.qS B.qP (by rw [c.i 104 rfl]; exact h7) (fun j hj => by rw [c.i 105 rfl, c.i 106 rfl]; exact ⟨rfl, rfl⟩) (fun i hi => by rw [c.i 107 rfl]) hv
theorem l_R.ag (h : l_R K I X) (N : Nat) : z_ag N (z_x0 K) S I J P S X J P := fun a _ => ⟨⟨rfl, rfl⟩, fun e => ⟨h a e, rfl⟩⟩
theorem l_R.B (B : z_B S I J P K n.1) (h : l_R K I X) : z_B S X J P K n.1 ∧ z_cg I J X J :=
  ⟨B.mono (z_keepx K) (h.ag _) (Nat.le_refl _), (h.ag (S := S) (J := J) (P := P) n.1).cg (z_keepx K) B.2.2.1.2 B.2.2.1.1⟩
theorem l_v_c (c : z_cg I J X J) (s l : Nat) : l_v X J s l = l_v I J s l := by unfold l_v; rw [z_Ds_c c, z_vi_c c, c.i 87 rfl, c.i 84 rfl, c.i 88 rfl]
theorem C_fillX (B : z_B S I J P K n.1) (h : l_R K I X) {s l : Nat} (hs : s < 24) (hw : z_wf I s l = true) : ∃ p, P 18 s = some p ∧ ∃ X', f_Rs_fillFacts 8 (z_n s) p (z_n l) (z_h S X J P n) = some ((), z_h S X' J P n) ∧ l_R K I X' ∧ ∀ j, j < 13 → X' 35 j = l_v I J s l j := by
  obtain ⟨BX, c⟩ := h.B B
  have hw' := hw
  rw [← z_wf_c c] at hw'
  obtain ⟨p, k1, k2, k3, -, k4, -⟩ := BX.wife hs hw'
  obtain ⟨X', a1, a2, a3⟩ := C_fill (n := n) BX hs k1 k2 k3 k4
  refine ⟨p, k1, X', a1, fun a ha => ?_, fun j hj => ?_⟩
  · by_cases e : a = 35
    · rw [e] at ha
      unfold z_x0 at ha
      simp at ha
    · rw [a2 a e]; exact h a ha
  · rw [a3 j hj, ← l_v_c c]; rfl
set_option maxRecDepth 100000 in
set_option maxHeartbeats 4000000 in
theorem C_unlet (B : z_B S I J P K n.1) {o : Option Nat} {q2 : Nat} {w1 w2 : l_V → Bool} (h1 : (o = none ∧ ∀ v, w1 v = true) ∨ ∃ q1, o = some q1 ∧ S q1 = some (6, [2, 0, 0, 2]) ∧ ∀ X v, l_R K I X → (∀ j, j < 13 → X 35 j = v j) → ∃ X', f_La_allows q1 35 (z_h S X J P n) = some (z_b (w1 v = true), z_h S X' J P n) ∧ l_R K I X' ∧ X' 35 = X 35) (s2 : S q2 = some (6, [2, 0, 0, 2])) (h2 : ∀ X v, l_R K I X → (∀ j, j < 13 → X 35 j = v j) → ∃ X', f_La_allows q2 35 (z_h S X J P n) = some (z_b (w2 v = true), z_h S X' J P n) ∧ l_R K I X' ∧ X' 35 = X 35) (hX : l_R K I X) : ∃ X', f_Rs_countUnlet 8 o q2 (z_h S X J P n) = some (z_n (l_un I J w1 w2 24), z_h S X' J P n) ∧ l_R K I X' := by
  have hS := B.qS
  have hP := B.qP
  obtain ⟨o1, o2, o3, o4, o5⟩ := C_hob (n := n) hS hP
  have f9 : ∀ I J, q_gr (q_gf (z_h S I J P n) 0 8 9) = some 35 := fun _ _ => z_gr (s_8 hS) rfl (p_8_9 hP)
  have ob2 : ∀ I J, q_ob (z_h S I J P n) 6 q2 = some (z_vs I J P q2 [2, 0, 0, 2]) := fun _ _ => z_ob s2
  obtain ⟨X', a1, a2⟩ : ∃ X', f_Rs_countUnlet_L5 8 o q2 q_FU (z_n 0) (z_n 0) (z_h S X J P n) = some (z_n (l_un I J w1 w2 24), z_h S X' J P n) ∧ l_R K I X' :=
    z_runI (fun m s (X : z_MI) => f_Rs_countUnlet_L5 8 o q2 m (z_n (l_un I J w1 w2 s)) (z_n s) (z_h S X J P n)) 24
    (fun s X => l_R K I X)
    (fun r => ∃ X', r = some (z_n (l_un I J w1 w2 24), z_h S X' J P n) ∧ l_R K I X') (by omega)
    (by
      intro m s X hs hX
      obtain ⟨BX, c⟩ := hX.B B
      have p1 := C_pageOf (I := X) (J := J) (n := n) hS hP hs
      have es : l_un I J w1 w2 (s + 1) = l_un I J w1 w2 s + if z_th I s = true then z_sum (z_ln I s) (l_u1 I J w1 w2 s) else 0 := rfl
      rw [es]
      generalize l_un I J w1 w2 s = N
      by_cases t1 : z_th I s = true
      rotate_left
      · have e0 := h_pn B hs t1
        have k : f_Rs_countUnlet_L26 8 o q2 (z_n s) none q_FU (z_n N) (z_n 0) (z_h S X J P n) = some (z_n N, z_h S X J P n) := rfl
        refine ⟨X, hX, ?_⟩
        rw [if_neg t1]
        simp (disch := omega) only [f_Rs_countUnlet_L5, hs, o2, o4, p1, e0, k, or_true, true_or, or_false, false_or, z_b_T, z_b_F, Bool.false_eq_true, Classical.not_not, decide_eq_true_eq, z_sq, Option.bind_some, z_lits, z_n_add, z_n_mul, z_lt, z_le, z_eq, z_ne1, z_1ne, z_lt1, z_1lt, z_ltT, z_ltF, z_leT, z_leF, z_eqF, z_b_0, z_b_1, ↓reduceIte, eq_self, not_true_eq_false, not_false_eq_true, and_true, true_and, and_false, false_and, Nat.add_zero, Nat.zero_add]
      obtain ⟨p, e1, e2, -⟩ := h_pg B (fun _ _ => rfl) hs t1
      have l12 : z_ln I s ≤ 12 := (B.qD hs).1
      have r1 := z_ps_r e2
      obtain ⟨X2, b1, b2⟩ : ∃ X2, f_Rs_countUnlet_L26 8 o q2 (z_n s) (some p) q_FU (z_n N) (z_n 0) (z_h S X J P n) = some (z_n (N + z_sum (z_ln I s) (l_u1 I J w1 w2 s)), z_h S X2 J P n) ∧ l_R K I X2 :=
        z_runI (fun m l (X : z_MI) => f_Rs_countUnlet_L26 8 o q2 (z_n s) (some p) m (z_n (N + z_sum l (l_u1 I J w1 w2 s))) (z_n l) (z_h S X J P n)) (z_ln I s)
        (fun l X => l_R K I X)
        (fun r => ∃ X2, r = some (z_n (N + z_sum (z_ln I s) (l_u1 I J w1 w2 s)), z_h S X2 J P n) ∧ l_R K I X2) (by omega)
        (by
          intro m l X hl hX
          obtain ⟨BX, c⟩ := hX.B B
          obtain ⟨p', e1', -, e3⟩ := h_pg BX (fun _ _ => rfl) hs (by rw [z_th_c c]; exact t1)
          rw [e1] at e1'
          cases e1'
          rw [z_Ds_c c] at e3
          have sz : X p 0 = z_n (z_ln I s) := e3.1
          have hw : X (p + 7) l = I 93 (12 * s + l) := e3.w hl
          rw [z_sum_s, ← Nat.add_assoc]
          have ewf : (z_wf I s l = true) = ¬ I 93 (12 * s + l) = -z_n 1 := by
            unfold z_wf
            rw [decide_eq_true_eq]
            exact propext ⟨fun q => q.2.2, fun q => ⟨t1, hl, q⟩⟩
          by_cases c1 : I 93 (12 * s + l) = -z_n 1
          · have eu : l_u1 I J w1 w2 s l = 0 := if_neg (fun q => by rw [ewf] at q; exact q.1 c1)
            rw [eu]
            refine ⟨X, hX, ?_⟩
            simp (disch := omega) only [f_Rs_countUnlet_L26, r1, sz, hl, hw, c1, or_true, true_or, or_false, false_or, z_b_T, z_b_F, Bool.false_eq_true, Classical.not_not, decide_eq_true_eq, z_sq, Option.bind_some, z_lits, z_n_add, z_n_mul, z_lt, z_le, z_eq, z_ne1, z_1ne, z_lt1, z_1lt, z_ltT, z_ltF, z_leT, z_leF, z_eqF, z_b_0, z_b_1, ↓reduceIte, eq_self, not_true_eq_false, not_false_eq_true, and_true, true_and, and_false, false_and, Nat.add_zero, Nat.zero_add]
          have wf : z_wf I s l = true := by rw [ewf]; exact c1
          obtain ⟨p2, g1, X3, g2, g3, g4⟩ := C_fillX B hX hs wf
          rw [e1] at g1
          cases g1
          rcases h1 with ⟨rfl, h1⟩ | ⟨q1, rfl, s1, h1⟩
          · obtain ⟨X4, i1, i2, i3⟩ := h2 X3 (l_v I J s l) g3 g4
            refine ⟨X4, i2, ?_⟩
            by_cases d2 : w2 (l_v I J s l) = true
            · have eu : l_u1 I J w1 w2 s l = 0 := if_neg (fun q => q.2.2 d2)
              rw [eu]
              rw [z_b_t d2] at i1
              simp (disch := omega) only [f_Rs_countUnlet_L26, r1, sz, hl, hw, c1, o5, g2, f9, ob2, i1, or_true, true_or, or_false, false_or, z_b_T, z_b_F, Bool.false_eq_true, Classical.not_not, decide_eq_true_eq, z_sq, Option.bind_some, z_lits, z_n_add, z_n_mul, z_lt, z_le, z_eq, z_ne1, z_1ne, z_lt1, z_1lt, z_ltT, z_ltF, z_leT, z_leF, z_eqF, z_b_0, z_b_1, ↓reduceIte, eq_self, not_true_eq_false, not_false_eq_true, and_true, true_and, and_false, false_and, Nat.add_zero, Nat.zero_add]
            · have eu : l_u1 I J w1 w2 s l = 1 := if_pos ⟨wf, h1 _, d2⟩
              rw [eu]
              rw [z_b_f d2] at i1
              simp (disch := omega) only [f_Rs_countUnlet_L26, r1, sz, hl, hw, c1, o5, g2, f9, ob2, i1, or_true, true_or, or_false, false_or, z_b_T, z_b_F, Bool.false_eq_true, Classical.not_not, decide_eq_true_eq, z_sq, Option.bind_some, z_lits, z_n_add, z_n_mul, z_lt, z_le, z_eq, z_ne1, z_1ne, z_lt1, z_1lt, z_ltT, z_ltF, z_leT, z_leF, z_eqF, z_b_0, z_b_1, ↓reduceIte, eq_self, not_true_eq_false, not_false_eq_true, and_true, true_and, and_false, false_and, Nat.add_zero, Nat.zero_add]
          · have ob1 : ∀ I J, q_ob (z_h S I J P n) 6 q1 = some (z_vs I J P q1 [2, 0, 0, 2]) := fun _ _ => z_ob s1
            obtain ⟨X4, i1, i2, i3⟩ := h1 X3 (l_v I J s l) g3 g4
            by_cases d1 : w1 (l_v I J s l) = true
            · rw [z_b_t d1] at i1
              obtain ⟨X5, j1, j2, j3⟩ := h2 X4 (l_v I J s l) i2 (fun j hj => by rw [i3]; exact g4 j hj)
              refine ⟨X5, j2, ?_⟩
              by_cases d2 : w2 (l_v I J s l) = true
              · have eu : l_u1 I J w1 w2 s l = 0 := if_neg (fun q => q.2.2 d2)
                rw [eu]
                rw [z_b_t d2] at j1
                simp (disch := omega) only [f_Rs_countUnlet_L26, r1, sz, hl, hw, c1, o5, g2, f9, ob1, ob2, i1, j1, or_true, true_or, or_false, false_or, z_b_T, z_b_F, Bool.false_eq_true, Classical.not_not, decide_eq_true_eq, z_sq, Option.bind_some, z_lits, z_n_add, z_n_mul, z_lt, z_le, z_eq, z_ne1, z_1ne, z_lt1, z_1lt, z_ltT, z_ltF, z_leT, z_leF, z_eqF, z_b_0, z_b_1, ↓reduceIte, eq_self, not_true_eq_false, not_false_eq_true, and_true, true_and, and_false, false_and, Nat.add_zero, Nat.zero_add]
              · have eu : l_u1 I J w1 w2 s l = 1 := if_pos ⟨wf, d1, d2⟩
                rw [eu]
                rw [z_b_f d2] at j1
                simp (disch := omega) only [f_Rs_countUnlet_L26, r1, sz, hl, hw, c1, o5, g2, f9, ob1, ob2, i1, j1, or_true, true_or, or_false, false_or, z_b_T, z_b_F, Bool.false_eq_true, Classical.not_not, decide_eq_true_eq, z_sq, Option.bind_some, z_lits, z_n_add, z_n_mul, z_lt, z_le, z_eq, z_ne1, z_1ne, z_lt1, z_1lt, z_ltT, z_ltF, z_leT, z_leF, z_eqF, z_b_0, z_b_1, ↓reduceIte, eq_self, not_true_eq_false, not_false_eq_true, and_true, true_and, and_false, false_and, Nat.add_zero, Nat.zero_add]
            · rw [z_b_f d1] at i1
              have eu : l_u1 I J w1 w2 s l = 0 := if_neg (fun q => d1 q.2.1)
              rw [eu]
              refine ⟨X4, i2, ?_⟩
              simp (disch := omega) only [f_Rs_countUnlet_L26, r1, sz, hl, hw, c1, o5, g2, f9, ob1, i1, or_true, true_or, or_false, false_or, z_b_T, z_b_F, Bool.false_eq_true, Classical.not_not, decide_eq_true_eq, z_sq, Option.bind_some, z_lits, z_n_add, z_n_mul, z_lt, z_le, z_eq, z_ne1, z_1ne, z_lt1, z_1lt, z_ltT, z_ltF, z_leT, z_leF, z_eqF, z_b_0, z_b_1, ↓reduceIte, eq_self, not_true_eq_false, not_false_eq_true, and_true, true_and, and_false, false_and, Nat.add_zero, Nat.zero_add])
        (by
          intro m X hX
          obtain ⟨BX, c⟩ := hX.B B
          obtain ⟨p', e1', -, e3⟩ := h_pg BX (fun _ _ => rfl) hs (by rw [z_th_c c]; exact t1)
          rw [e1] at e1'
          cases e1'
          rw [z_Ds_c c] at e3
          have sz : X p 0 = z_n (z_ln I s) := e3.1
          refine ⟨X, ?_, hX⟩
          simp (disch := omega) only [f_Rs_countUnlet_L26, r1, sz, Nat.lt_irrefl, or_true, true_or, or_false, false_or, z_b_T, z_b_F, Bool.false_eq_true, Classical.not_not, decide_eq_true_eq, z_sq, Option.bind_some, z_lits, z_n_add, z_n_mul, z_lt, z_le, z_eq, z_ne1, z_1ne, z_lt1, z_1lt, z_ltT, z_ltF, z_leT, z_leF, z_eqF, z_b_0, z_b_1, ↓reduceIte, eq_self, not_true_eq_false, not_false_eq_true, and_true, true_and, and_false, false_and, Nat.add_zero, Nat.zero_add])
        (x := X) hX
      refine ⟨X2, b2, ?_⟩
      rw [if_pos t1]
      simp (disch := omega) only [f_Rs_countUnlet_L5, hs, o2, o4, p1, e1, b1, or_true, true_or, or_false, false_or, z_b_T, z_b_F, Bool.false_eq_true, Classical.not_not, decide_eq_true_eq, z_sq, Option.bind_some, z_lits, z_n_add, z_n_mul, z_lt, z_le, z_eq, z_ne1, z_1ne, z_lt1, z_1lt, z_ltT, z_ltF, z_leT, z_leF, z_eqF, z_b_0, z_b_1, ↓reduceIte, eq_self, not_true_eq_false, not_false_eq_true, and_true, true_and, and_false, false_and, Nat.add_zero, Nat.zero_add])
    (by
      intro m X hX
      refine ⟨X, ?_, hX⟩
      simp (disch := omega) only [f_Rs_countUnlet_L5, Nat.lt_irrefl, or_true, true_or, or_false, false_or, z_b_T, z_b_F, Bool.false_eq_true, Classical.not_not, decide_eq_true_eq, z_sq, Option.bind_some, z_lits, z_n_add, z_n_mul, z_lt, z_le, z_eq, z_ne1, z_1ne, z_lt1, z_1lt, z_ltT, z_ltF, z_leT, z_leF, z_eqF, z_b_0, z_b_1, ↓reduceIte, eq_self, not_true_eq_false, not_false_eq_true, and_true, true_and, and_false, false_and, Nat.add_zero, Nat.zero_add])
    (x := X) hX
  refine ⟨X', ?_, a2⟩
  simp (disch := omega) only [f_Rs_countUnlet, a1, or_true, true_or, or_false, false_or, z_b_T, z_b_F, Bool.false_eq_true, Classical.not_not, decide_eq_true_eq, z_sq, Option.bind_some, z_lits, z_n_add, z_n_mul, z_lt, z_le, z_eq, z_ne1, z_1ne, z_lt1, z_1lt, z_ltT, z_ltF, z_leT, z_leF, z_eqF, z_b_0, z_b_1, ↓reduceIte, eq_self, not_true_eq_false, not_false_eq_true, and_true, true_and, and_false, false_and, Nat.add_zero, Nat.zero_add]
theorem l_Q.cg (h : l_Q Y X) (c : z_cg I J Y J) : z_cg I J X J := by
  refine c.trans ⟨fun a ha => (h a (fun e => ?_)).symm, ?_, ?_, fun _ _ => rfl⟩
  · unfold z_cra at ha
    simp only [Bool.or_eq_true, Bool.and_eq_true, decide_eq_true_eq, beq_iff_eq] at ha
    omega
  · rw [h 83 (by omega)]
  · rw [h 83 (by omega)]
theorem l_Q.mf (h : l_Q Y X) : z_mf Y J X J := by
  refine ⟨fun a ha => ⟨h a (fun e => ?_), rfl⟩, by rw [h 83 (by omega)], by rw [h 83 (by omega)]⟩
  rcases ha with q | q | q
  · omega
  · omega
  · unfold z_cra at q
    simp only [Bool.or_eq_true, Bool.and_eq_true, decide_eq_true_eq, beq_iff_eq] at q
    omega
set_option maxRecDepth 100000 in
set_option maxHeartbeats 4000000 in
theorem M_unlet (B : z_B S I J P K n.1) {k1 k2 : Nat} {y1 y2 : Nat × (l_V → Bool)} (h1 : l_P S I J P K n k1 y1) (h2 : l_P S I J P K n k2 y2) (hk : k1 < 4 ∧ k2 < 4) (c0 : z_cg I J Y J) : ∃ Z, f_Mo_failsOf 83 (z_n k1) (z_n k2) (z_h S Y J P n) = some (z_n (l_un I J (if k2 = k1 then fun _ => true else y2.2) y1.2 24), z_h S Z J P n) ∧ l_Q Y Z := by
  have hS := B.qS
  have hP := B.qP
  have om := fun I J => z_ob (I := I) (J := J) (P := P) (n := n) (s_83 hS)
  have fl1 := fun (X : z_MI) (c : z_cg I J X J) (s l : Nat) (hs : s < 24) (hw : z_wf I s l = true) => M_fill (n := n) B c (k := k1) hs hw h1.2.2.2
  have fl2 := fun (X : z_MI) (c : z_cg I J X J) (s l : Nat) (hs : s < 24) (hw : z_wf I s l = true) => M_fill (n := n) B c (k := k2) hs hw h2.2.2.2
  obtain ⟨Z, a1, a2⟩ : ∃ Z, f_Mo_failsOf_L5 83 (z_n k1) (z_n k2) q_FU (z_n 0) (z_n 0) (z_h S Y J P n) = some (z_n (l_un I J (if k2 = k1 then fun _ => true else y2.2) y1.2 24), z_h S Z J P n) ∧ l_Q Y Z :=
    z_runI (fun m s (X : z_MI) => f_Mo_failsOf_L5 83 (z_n k1) (z_n k2) m (z_n (l_un I J (if k2 = k1 then fun _ => true else y2.2) y1.2 s)) (z_n s) (z_h S X J P n)) 24
    (fun s X => l_Q Y X)
    (fun r => ∃ Z, r = some (z_n (l_un I J (if k2 = k1 then fun _ => true else y2.2) y1.2 24), z_h S Z J P n) ∧ l_Q Y Z) (by omega)
    (by
      intro m s X hs hX
      have es : l_un I J (if k2 = k1 then fun _ => true else y2.2) y1.2 (s + 1) = l_un I J (if k2 = k1 then fun _ => true else y2.2) y1.2 s + if z_th I s = true then z_sum (z_ln I s) (l_u1 I J (if k2 = k1 then fun _ => true else y2.2) y1.2 s) else 0 := rfl
      rw [es]
      generalize l_un I J (if k2 = k1 then fun _ => true else y2.2) y1.2 s = N
      by_cases t1 : z_th I s = true
      rotate_left
      · have th := M_isThere (n := n) (I := X) (J := J) hS hP hs
        rw [z_th_c (hX.cg c0), z_b_f t1] at th
        have k : ∀ m, f_Mo_failsOf_L15 83 (z_n k1) (z_n k2) (z_n s) (m + 1) (z_n N) (z_n 0) (z_h S X J P n) = some (z_n N, z_h S X J P n) := by
          intro m
          simp (disch := omega) only [f_Mo_failsOf_L15, om, th, or_true, true_or, or_false, false_or, z_b_T, z_b_F, Bool.false_eq_true, Classical.not_not, decide_eq_true_eq, z_sq, Option.bind_some, z_lits, z_n_add, z_n_mul, z_lt, z_le, z_eq, z_ne1, z_1ne, z_lt1, z_1lt, z_ltT, z_ltF, z_leT, z_leF, z_eqF, z_b_0, z_b_1, ↓reduceIte, eq_self, not_true_eq_false, not_false_eq_true, and_true, true_and, and_false, false_and, Nat.add_zero, Nat.zero_add]
        have k := k 999999
        change f_Mo_failsOf_L15 83 (z_n k1) (z_n k2) (z_n s) q_FU (z_n N) (z_n 0) (z_h S X J P n) = _ at k
        refine ⟨X, hX, ?_⟩
        rw [if_neg t1]
        simp (disch := omega) only [f_Mo_failsOf_L5, hs, k, or_true, true_or, or_false, false_or, z_b_T, z_b_F, Bool.false_eq_true, Classical.not_not, decide_eq_true_eq, z_sq, Option.bind_some, z_lits, z_n_add, z_n_mul, z_lt, z_le, z_eq, z_ne1, z_1ne, z_lt1, z_1lt, z_ltT, z_ltF, z_leT, z_leF, z_eqF, z_b_0, z_b_1, ↓reduceIte, eq_self, not_true_eq_false, not_false_eq_true, and_true, true_and, and_false, false_and, Nat.add_zero, Nat.zero_add]
      have l12 : z_ln I s ≤ 12 := (B.qD hs).1
      have hL := (B.qL s (by omega)).1
      obtain ⟨X2, b1, b2⟩ : ∃ X2, f_Mo_failsOf_L15 83 (z_n k1) (z_n k2) (z_n s) q_FU (z_n N) (z_n 0) (z_h S X J P n) = some (z_n (N + z_sum (z_ln I s) (l_u1 I J (if k2 = k1 then fun _ => true else y2.2) y1.2 s)), z_h S X2 J P n) ∧ l_Q Y X2 :=
        z_runI (fun m l (X : z_MI) => f_Mo_failsOf_L15 83 (z_n k1) (z_n k2) (z_n s) m (z_n (N + z_sum l (l_u1 I J (if k2 = k1 then fun _ => true else y2.2) y1.2 s))) (z_n l) (z_h S X J P n)) (z_ln I s)
        (fun l X => l_Q Y X)
        (fun r => ∃ X2, r = some (z_n (N + z_sum (z_ln I s) (l_u1 I J (if k2 = k1 then fun _ => true else y2.2) y1.2 s)), z_h S X2 J P n) ∧ l_Q Y X2) (by omega)
        (by
          intro m l X hl hX
          have cX := hX.cg c0
          have th := M_isThere (n := n) (I := X) (J := J) hS hP hs
          rw [z_th_c cX, z_b_t t1] at th
          have hLX : X 90 s = z_n (z_ln I s) := by rw [cX.i 90 rfl]; exact hL
          have iw := M_iw (n' := n) B hS hP cX hs (show l ≤ 11 by omega)
          rw [z_sum_s, ← Nat.add_assoc]
          by_cases wf : z_wf I s l = true
          rotate_left
          · rw [z_b_f wf] at iw
            have eu : l_u1 I J (if k2 = k1 then fun _ => true else y2.2) y1.2 s l = 0 := if_neg (fun q => wf q.1)
            rw [eu]
            refine ⟨X, hX, ?_⟩
            simp (disch := omega) only [f_Mo_failsOf_L15, om, th, z_Mr hS hP, hLX, hl, iw, or_true, true_or, or_false, false_or, z_b_T, z_b_F, Bool.false_eq_true, Classical.not_not, decide_eq_true_eq, z_sq, Option.bind_some, z_lits, z_n_add, z_n_mul, z_lt, z_le, z_eq, z_ne1, z_1ne, z_lt1, z_1lt, z_ltT, z_ltF, z_leT, z_leF, z_eqF, z_b_0, z_b_1, ↓reduceIte, eq_self, not_true_eq_false, not_false_eq_true, and_true, true_and, and_false, false_and, Nat.add_zero, Nat.zero_add]
          rw [z_b_t wf] at iw
          obtain ⟨Z1, g1, g2⟩ := fl1 X cX s l hs wf
          change f_Mo_isLet 83 (z_n k1) (z_n s) (z_n l) (z_h S X J P n) = some (z_b (y1.2 (l_v I J s l) = true), z_h S Z1 J P n) at g1
          have hZ1 : l_Q Y Z1 := fun a ha => (g2 a ha).trans (hX a ha)
          by_cases d1 : y1.2 (l_v I J s l) = true
          · rw [z_b_t d1] at g1
            have eu : l_u1 I J (if k2 = k1 then fun _ => true else y2.2) y1.2 s l = 0 := if_neg (fun q => q.2.2 d1)
            rw [eu]
            refine ⟨Z1, hZ1, ?_⟩
            simp (disch := omega) only [f_Mo_failsOf_L15, om, th, z_Mr hS hP, hLX, hl, iw, g1, or_true, true_or, or_false, false_or, z_b_T, z_b_F, Bool.false_eq_true, Classical.not_not, decide_eq_true_eq, z_sq, Option.bind_some, z_lits, z_n_add, z_n_mul, z_lt, z_le, z_eq, z_ne1, z_1ne, z_lt1, z_1lt, z_ltT, z_ltF, z_leT, z_leF, z_eqF, z_b_0, z_b_1, ↓reduceIte, eq_self, not_true_eq_false, not_false_eq_true, and_true, true_and, and_false, false_and, Nat.add_zero, Nat.zero_add]
          · rw [z_b_f d1] at g1
            by_cases ek : k2 = k1
            · have eu : l_u1 I J (if k2 = k1 then fun _ => true else y2.2) y1.2 s l = 1 := if_pos ⟨wf, by rw [if_pos ek], d1⟩
              rw [eu]
              refine ⟨Z1, hZ1, ?_⟩
              simp (disch := omega) only [f_Mo_failsOf_L15, om, th, z_Mr hS hP, hLX, hl, iw, g1, ek, or_true, true_or, or_false, false_or, z_b_T, z_b_F, Bool.false_eq_true, Classical.not_not, decide_eq_true_eq, z_sq, Option.bind_some, z_lits, z_n_add, z_n_mul, z_lt, z_le, z_eq, z_ne1, z_1ne, z_lt1, z_1lt, z_ltT, z_ltF, z_leT, z_leF, z_eqF, z_b_0, z_b_1, ↓reduceIte, eq_self, not_true_eq_false, not_false_eq_true, and_true, true_and, and_false, false_and, Nat.add_zero, Nat.zero_add]
            · obtain ⟨Z2, j1, j2⟩ := fl2 Z1 (hZ1.cg c0) s l hs wf
              change f_Mo_isLet 83 (z_n k2) (z_n s) (z_n l) (z_h S Z1 J P n) = some (z_b (y2.2 (l_v I J s l) = true), z_h S Z2 J P n) at j1
              have hZ2 : l_Q Y Z2 := fun a ha => (j2 a ha).trans (hZ1 a ha)
              refine ⟨Z2, hZ2, ?_⟩
              by_cases d2 : y2.2 (l_v I J s l) = true
              · rw [z_b_t d2] at j1
                have eu : l_u1 I J (if k2 = k1 then fun _ => true else y2.2) y1.2 s l = 1 := if_pos ⟨wf, by rw [if_neg ek]; exact d2, d1⟩
                rw [eu]
                simp (disch := omega) only [f_Mo_failsOf_L15, om, th, z_Mr hS hP, hLX, hl, iw, g1, ek, j1, or_true, true_or, or_false, false_or, z_b_T, z_b_F, Bool.false_eq_true, Classical.not_not, decide_eq_true_eq, z_sq, Option.bind_some, z_lits, z_n_add, z_n_mul, z_lt, z_le, z_eq, z_ne1, z_1ne, z_lt1, z_1lt, z_ltT, z_ltF, z_leT, z_leF, z_eqF, z_b_0, z_b_1, ↓reduceIte, eq_self, not_true_eq_false, not_false_eq_true, and_true, true_and, and_false, false_and, Nat.add_zero, Nat.zero_add]
              · rw [z_b_f d2] at j1
                have eu : l_u1 I J (if k2 = k1 then fun _ => true else y2.2) y1.2 s l = 0 := if_neg (fun q => d2 (by have := q.2.1; rw [if_neg ek] at this; exact this))
                rw [eu]
                simp (disch := omega) only [f_Mo_failsOf_L15, om, th, z_Mr hS hP, hLX, hl, iw, g1, ek, j1, or_true, true_or, or_false, false_or, z_b_T, z_b_F, Bool.false_eq_true, Classical.not_not, decide_eq_true_eq, z_sq, Option.bind_some, z_lits, z_n_add, z_n_mul, z_lt, z_le, z_eq, z_ne1, z_1ne, z_lt1, z_1lt, z_ltT, z_ltF, z_leT, z_leF, z_eqF, z_b_0, z_b_1, ↓reduceIte, eq_self, not_true_eq_false, not_false_eq_true, and_true, true_and, and_false, false_and, Nat.add_zero, Nat.zero_add])
        (by
          intro m X hX
          have cX := hX.cg c0
          have th := M_isThere (n := n) (I := X) (J := J) hS hP hs
          rw [z_th_c cX, z_b_t t1] at th
          have hLX : X 90 s = z_n (z_ln I s) := by rw [cX.i 90 rfl]; exact hL
          refine ⟨X, ?_, hX⟩
          simp (disch := omega) only [f_Mo_failsOf_L15, om, th, z_Mr hS hP, hLX, Nat.lt_irrefl, or_true, true_or, or_false, false_or, z_b_T, z_b_F, Bool.false_eq_true, Classical.not_not, decide_eq_true_eq, z_sq, Option.bind_some, z_lits, z_n_add, z_n_mul, z_lt, z_le, z_eq, z_ne1, z_1ne, z_lt1, z_1lt, z_ltT, z_ltF, z_leT, z_leF, z_eqF, z_b_0, z_b_1, ↓reduceIte, eq_self, not_true_eq_false, not_false_eq_true, and_true, true_and, and_false, false_and, Nat.add_zero, Nat.zero_add])
        (x := X) hX
      refine ⟨X2, b2, ?_⟩
      rw [if_pos t1]
      simp (disch := omega) only [f_Mo_failsOf_L5, hs, b1, or_true, true_or, or_false, false_or, z_b_T, z_b_F, Bool.false_eq_true, Classical.not_not, decide_eq_true_eq, z_sq, Option.bind_some, z_lits, z_n_add, z_n_mul, z_lt, z_le, z_eq, z_ne1, z_1ne, z_lt1, z_1lt, z_ltT, z_ltF, z_leT, z_leF, z_eqF, z_b_0, z_b_1, ↓reduceIte, eq_self, not_true_eq_false, not_false_eq_true, and_true, true_and, and_false, false_and, Nat.add_zero, Nat.zero_add])
    (by
      intro m X hX
      refine ⟨X, ?_, hX⟩
      simp (disch := omega) only [f_Mo_failsOf_L5, Nat.lt_irrefl, or_true, true_or, or_false, false_or, z_b_T, z_b_F, Bool.false_eq_true, Classical.not_not, decide_eq_true_eq, z_sq, Option.bind_some, z_lits, z_n_add, z_n_mul, z_lt, z_le, z_eq, z_ne1, z_1ne, z_lt1, z_1lt, z_ltT, z_ltF, z_leT, z_leF, z_eqF, z_b_0, z_b_1, ↓reduceIte, eq_self, not_true_eq_false, not_false_eq_true, and_true, true_and, and_false, false_and, Nat.add_zero, Nat.zero_add])
    (x := Y) (fun _ _ => rfl)
  refine ⟨Z, ?_, a2⟩
  simp (disch := omega) only [f_Mo_failsOf, a1, or_true, true_or, or_false, false_or, z_b_T, z_b_F, Bool.false_eq_true, Classical.not_not, decide_eq_true_eq, z_sq, Option.bind_some, z_lits, z_n_add, z_n_mul, z_lt, z_le, z_eq, z_ne1, z_1ne, z_lt1, z_1lt, z_ltT, z_ltF, z_leT, z_leF, z_eqF, z_b_0, z_b_1, ↓reduceIte, eq_self, not_true_eq_false, not_false_eq_true, and_true, true_and, and_false, false_and, Nat.add_zero, Nat.zero_add]
end
