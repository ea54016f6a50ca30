/-! Pages: lines, line, kin, sort, taken. -/
section
variable {S : z_SH} {I : z_MI} {J : z_MJ} {P : z_MP} {K : Nat → Bool} {n : Nat × Nat}
theorem z_pd.na {p l : Nat} {D : z_D} (h : z_pd I J p D) (hl : l < D.1) : J (p + 1) l = D.2.2 0 l := h.2.1 0 l (by omega) hl
theorem z_pd.fa {p l : Nat} {D : z_D} (h : z_pd I J p D) (hl : l < D.1) : J (p + 2) l = D.2.2 1 l := h.2.1 1 l (by omega) hl
theorem z_pd.mo {p l : Nat} {D : z_D} (h : z_pd I J p D) (hl : l < D.1) : J (p + 3) l = D.2.2 2 l := h.2.1 2 l (by omega) hl
theorem z_pd.se {p l : Nat} {D : z_D} (h : z_pd I J p D) (hl : l < D.1) : I (p + 4) l = D.2.1 0 l := (h.2.2 l hl).1
theorem z_pd.ag {p l : Nat} {D : z_D} (h : z_pd I J p D) (hl : l < D.1) : I (p + 5) l = D.2.1 1 l := (h.2.2 l hl).2.1
theorem z_pd.tg {p l : Nat} {D : z_D} (h : z_pd I J p D) (hl : l < D.1) : I (p + 6) l = z_n (d_tg D l) := (h.2.2 l hl).2.2.1
theorem z_pd.sw {p l : Nat} {D : z_D} (h : z_pd I J p D) (hl : l < D.1) : I (p + 8) l = D.2.1 3 l := (h.2.2 l hl).2.2.2.2
def d_full (D : z_D) (a : Nat) (E : z_D) (b : Nat) : Bool := decide (¬ D.2.2 1 a = 0 ∧ D.2.2 1 a = E.2.2 1 b ∧ ¬ D.2.2 2 a = 0 ∧ D.2.2 2 a = E.2.2 2 b)
def d_half (D : z_D) (a b : Nat) : Bool := decide ((¬ D.2.2 1 a = 0 ∧ D.2.2 1 a = D.2.2 1 b) ∨ (¬ D.2.2 2 a = 0 ∧ D.2.2 2 a = D.2.2 2 b))
theorem z_pos {x : Int64} (h : x = 0 ∨ 0 < x) : (0 < x) = (¬ x = 0) := by
  rcases h with h | h
  · subst h; exact propext ⟨fun h => absurd h (by decide), fun h => absurd rfl h⟩
  · refine propext ⟨fun _ e => ?_, fun _ => h⟩
    subst e; exact absurd h (by decide)
theorem d_kin_fh {D : z_D} (h : d_ok D) {a b : Nat} (ha : a < D.1) : d_kin D a b = if d_full D a D b = true then 2 else if d_half D a b = true then 1 else 0 := by
  obtain ⟨-, -, -, -, -, f1, f2⟩ := h.2.1 a ha
  unfold d_kin d_full d_half
  simp only [z_pos f1, z_pos f2, decide_eq_true_eq, and_assoc]
set_option maxRecDepth 100000 in
set_option maxHeartbeats 4000000 in
theorem C_isFull {p q a b : Nat} {D E : z_D} (h : z_ps S P p) (k : z_ps S P q) (hd : z_pd I J p D) (he : z_pd I J q E) (ha : a < D.1) (hb : b < E.1) (hD : D.1 ≤ 12) (hE : E.1 ≤ 12) : f_Pa_isFull p (z_n a) q (z_n b) (z_h S I J P n) = some (z_b (d_full D a E b = true), z_h S I J P n) := by
  have r1 := z_ps_r h
  have r2 := z_ps_r k
  have e1 := hd.fa ha
  have e2 := hd.mo ha
  have e3 := he.fa hb
  have e4 := he.mo hb
  unfold d_full
  rcases z_tf (D.2.2 1 a = 0) with h1 | h1 <;> rcases z_tf (D.2.2 1 a = E.2.2 1 b) with h2 | h2 <;> rcases z_tf (D.2.2 2 a = 0) with h3 | h3 <;> rcases z_tf (D.2.2 2 a = E.2.2 2 b) with h4 | h4 <;> simp (disch := omega) only [f_Pa_isFull, r1, r2, e1, e2, e3, e4, h1, h2, h3, h4, or_true, true_or, or_false, false_or, z_b_T, z_b_F, Bool.false_eq_true, Classical.not_not, decide_eq_true_eq, z_sq, Option.bind_some, z_lits, z_n_add, z_n_mul, z_lt, z_le, z_eq, z_ne1, z_1ne, z_lt1, z_1lt, z_ltT, z_ltF, z_leT, z_leF, z_eqF, z_b_0, z_b_1, ↓reduceIte, eq_self, not_true_eq_false, not_false_eq_true, and_true, true_and, and_false, false_and, Nat.add_zero, Nat.zero_add]
set_option maxRecDepth 100000 in
set_option maxHeartbeats 4000000 in
theorem C_isHalf {p a b : Nat} {D : z_D} (h : z_ps S P p) (hd : z_pd I J p D) (ha : a < D.1) (hb : b < D.1) (hD : D.1 ≤ 12) : f_Pa_isHalf p (z_n a) (z_n b) (z_h S I J P n) = some (z_b (d_half D a b = true), z_h S I J P n) := by
  have r1 := z_ps_r h
  have e1 := hd.fa ha
  have e2 := hd.mo ha
  have e3 := hd.fa hb
  have e4 := hd.mo hb
  unfold d_half
  rcases z_tf (D.2.2 1 a = 0) with h1 | h1 <;> rcases z_tf (D.2.2 1 a = D.2.2 1 b) with h2 | h2 <;> rcases z_tf (D.2.2 2 a = 0) with h3 | h3 <;> rcases z_tf (D.2.2 2 a = D.2.2 2 b) with h4 | h4 <;> simp (disch := omega) only [f_Pa_isHalf, r1, e1, e2, e3, e4, h1, h2, h3, h4, or_true, true_or, or_false, false_or, z_b_T, z_b_F, Bool.false_eq_true, Classical.not_not, decide_eq_true_eq, z_sq, Option.bind_some, z_lits, z_n_add, z_n_mul, z_lt, z_le, z_eq, z_ne1, z_1ne, z_lt1, z_1lt, z_ltT, z_ltF, z_leT, z_leF, z_eqF, z_b_0, z_b_1, ↓reduceIte, eq_self, not_true_eq_false, not_false_eq_true, and_true, true_and, and_false, false_and, Nat.add_zero, Nat.zero_add]
def z_sl (x : Int32) : Nat := if ¬ x < z_n 10 ∧ x - x / z_n 5 * z_n 5 = z_n 0 then 2 else 0
set_option maxRecDepth 100000 in
set_option maxHeartbeats 4000000 in
theorem C_slack {p l : Nat} {D : z_D} (h : z_ps S P p) (hd : z_pd I J p D) (hl : l < D.1) (hD : D.1 ≤ 12) : f_Pa_slack p (z_n l) (z_h S I J P n) = some (z_n (z_sl (D.2.1 1 l)), z_h S I J P n) := by
  have r1 := z_ps_r h
  have e1 := hd.ag hl
  simp (disch := omega) only [f_Pa_slack, r1, e1, or_true, true_or, or_false, false_or, z_b_T, z_b_F, Bool.false_eq_true, Classical.not_not, decide_eq_true_eq, z_sq, Option.bind_some, z_lits, z_n_add, z_n_mul, z_lt, z_le, z_eq, z_ne1, z_1ne, z_lt1, z_1lt, z_ltT, z_ltF, z_leT, z_leF, z_eqF, z_b_0, z_b_1, ↓reduceIte, eq_self, not_true_eq_false, not_false_eq_true, and_true, true_and, and_false, false_and, Nat.add_zero, Nat.zero_add]
  unfold z_sl
  rcases z_tf (D.2.1 1 l < z_n 10) with h1 | h1 <;> rcases z_tf (D.2.1 1 l - D.2.1 1 l / z_n 5 * z_n 5 = z_n 0) with h2 | h2 <;> simp (disch := omega) only [h1, h2, or_true, true_or, or_false, false_or, z_b_T, z_b_F, Bool.false_eq_true, Classical.not_not, decide_eq_true_eq, z_sq, Option.bind_some, z_lits, z_n_add, z_n_mul, z_lt, z_le, z_eq, z_ne1, z_1ne, z_lt1, z_1lt, z_ltT, z_ltF, z_leT, z_leF, z_eqF, z_b_0, z_b_1, ↓reduceIte, eq_self, not_true_eq_false, not_false_eq_true, and_true, true_and, and_false, false_and, Nat.add_zero, Nat.zero_add]
theorem z_sl_wd (x : Int32) : z_n 2 * z_n (z_sl x) = z_n (z_wd x) := by
  unfold z_sl z_wd
  split <;> decide
/-- a line that is there -/
def z_li (I : z_MI) (s l : Nat) : Bool := z_th I s && decide (l < z_ln I s)
set_option maxRecDepth 100000 in
set_option maxHeartbeats 4000000 in
theorem X_lines (B : z_B S I J P K n.1) (s : Int32) : z_pr (f_Rs_lines 8 s) (f_Mo_lines 83 s) S I J P K n := by
  have hS := B.qS
  have hP := B.qP
  have m : z_mf I J (z_up I 83 0 (z_n 0)) J := z_mf.up rfl
  have c := m.cg
  have e8 : q_gr (q_gf (z_h S I J P n) 0 8 3) = some 13 := z_gr (s_8 hS) rfl (p_8_3 hP)
  rcases z_in s 23 (by omega) with ⟨x, hx, rfl⟩ | ho
  · have th := M_isThere (n := n) (I := z_up I 83 0 (z_n 0)) (J := J) hS hP (s := x) (by omega)
    rw [z_th_c c] at th
    have eL := (B.qL x (by omega)).1
    have e2 := c.i 90 rfl x
    rcases B.pg (s := x) (by omega) with ⟨h5, h6⟩ | ⟨h5, p, h6, h7⟩
    · refine z_pr.same (r := -z_n 1) ?_ ?_ m
      · simp (disch := omega) only [f_Rs_lines, e8, z_ob (s_13 hS), C_pageOf hS hP, h6, or_true, true_or, or_false, false_or, z_b_T, z_b_F, Bool.false_eq_true, Classical.not_not, decide_eq_true_eq, z_sq, Option.bind_some, z_lits, z_n_add, z_n_mul, z_lt, z_le, z_eq, z_ne1, z_1ne, z_lt1, z_1lt, z_ltT, z_ltF, z_leT, z_leF, z_eqF, z_b_0, z_b_1, ↓reduceIte, eq_self, not_true_eq_false, not_false_eq_true, and_true, true_and, and_false, false_and, Nat.add_zero, Nat.zero_add]
      · simp (disch := omega) only [f_Mo_lines, M_thr hS, z_ob (s_83 hS), th, h5, or_true, true_or, or_false, false_or, z_b_T, z_b_F, Bool.false_eq_true, Classical.not_not, decide_eq_true_eq, z_sq, Option.bind_some, z_lits, z_n_add, z_n_mul, z_lt, z_le, z_eq, z_ne1, z_1ne, z_lt1, z_1lt, z_ltT, z_ltF, z_leT, z_leF, z_eqF, z_b_0, z_b_1, ↓reduceIte, eq_self, not_true_eq_false, not_false_eq_true, and_true, true_and, and_false, false_and, Nat.add_zero, Nat.zero_add]
    · refine z_pr.same (r := z_n (z_ln I x)) ?_ ?_ m
      · simp (disch := omega) only [f_Rs_lines, e8, z_ob (s_13 hS), C_pageOf hS hP, h6, z_ps_r h7.2.1, h7.size, or_true, true_or, or_false, false_or, z_b_T, z_b_F, Bool.false_eq_true, Classical.not_not, decide_eq_true_eq, z_sq, Option.bind_some, z_lits, z_n_add, z_n_mul, z_lt, z_le, z_eq, z_ne1, z_1ne, z_lt1, z_1lt, z_ltT, z_ltF, z_leT, z_leF, z_eqF, z_b_0, z_b_1, ↓reduceIte, eq_self, not_true_eq_false, not_false_eq_true, and_true, true_and, and_false, false_and, Nat.add_zero, Nat.zero_add]
      · simp (disch := omega) only [f_Mo_lines, M_thr hS, z_ob (s_83 hS), th, h5, e2, eL, z_Mr hS hP, or_true, true_or, or_false, false_or, z_b_T, z_b_F, Bool.false_eq_true, Classical.not_not, decide_eq_true_eq, z_sq, Option.bind_some, z_lits, z_n_add, z_n_mul, z_lt, z_le, z_eq, z_ne1, z_1ne, z_lt1, z_1lt, z_ltT, z_ltF, z_leT, z_leF, z_eqF, z_b_0, z_b_1, ↓reduceIte, eq_self, not_true_eq_false, not_false_eq_true, and_true, true_and, and_false, false_and, Nat.add_zero, Nat.zero_add]
  · refine z_pr.same (r := -z_n 1) ?_ ?_ m
    · simp (disch := omega) only [f_Rs_lines, e8, z_ob (s_13 hS), C_pageOf_o ho, or_true, true_or, or_false, false_or, z_b_T, z_b_F, Bool.false_eq_true, Classical.not_not, decide_eq_true_eq, z_sq, Option.bind_some, z_lits, z_n_add, z_n_mul, z_lt, z_le, z_eq, z_ne1, z_1ne, z_lt1, z_1lt, z_ltT, z_ltF, z_leT, z_leF, z_eqF, z_b_0, z_b_1, ↓reduceIte, eq_self, not_true_eq_false, not_false_eq_true, and_true, true_and, and_false, false_and, Nat.add_zero, Nat.zero_add]
    · simp (disch := omega) only [f_Mo_lines, M_thr hS, z_ob (s_83 hS), M_isThere_o hS hP ho, or_true, true_or, or_false, false_or, z_b_T, z_b_F, Bool.false_eq_true, Classical.not_not, decide_eq_true_eq, z_sq, Option.bind_some, z_lits, z_n_add, z_n_mul, z_lt, z_le, z_eq, z_ne1, z_1ne, z_lt1, z_1lt, z_ltT, z_ltF, z_leT, z_leF, z_eqF, z_b_0, z_b_1, ↓reduceIte, eq_self, not_true_eq_false, not_false_eq_true, and_true, true_and, and_false, false_and, Nat.add_zero, Nat.zero_add]
set_option maxRecDepth 100000 in
set_option maxHeartbeats 4000000 in
theorem X_kin (B : z_B S I J P K n.1) (s a b : Int32) : z_pr (f_Rs_kin 8 s a b) (f_Mo_kin 83 s a b) S I J P K n := by
  have hS := B.qS
  have hP := B.qP
  have m : z_mf I J (z_up I 83 0 (z_n 0)) J := z_mf.up rfl
  have c := m.cg
  have e8 : q_gr (q_gf (z_h S I J P n) 0 8 3) = some 13 := z_gr (s_8 hS) rfl (p_8_3 hP)
  rcases z_in s 23 (by omega) with ⟨x, hx, rfl⟩ | ho
  · have hL := z_lL_c c B.qL
    have l1 := fun l hl => M_isLine (n := n) (J := J) hS hP hL (s := x) (l := l) (by omega) hl
    have l2 := fun l hl => M_isLine_o (n := n) (J := J) hS hP hL (s := x) (l := l) (by omega) hl
    simp only [z_th_c c, z_ln_c c] at l1
    rcases B.pg (s := x) (by omega) with ⟨h5, h6⟩ | ⟨h5, p, h6, h7⟩
    · refine z_pr.same (r := -z_n 1) ?_ ?_ m
      · simp (disch := omega) only [f_Rs_kin, e8, z_ob (s_13 hS), C_pageOf hS hP, h6, or_true, true_or, or_false, false_or, z_b_T, z_b_F, Bool.false_eq_true, Classical.not_not, decide_eq_true_eq, z_sq, Option.bind_some, z_lits, z_n_add, z_n_mul, z_lt, z_le, z_eq, z_ne1, z_1ne, z_lt1, z_1lt, z_ltT, z_ltF, z_leT, z_leF, z_eqF, z_b_0, z_b_1, ↓reduceIte, eq_self, not_true_eq_false, not_false_eq_true, and_true, true_and, and_false, false_and, Nat.add_zero, Nat.zero_add]
      · rcases z_in a 11 (by omega) with ⟨y, hy, rfl⟩ | hao
        · simp (disch := omega) only [f_Mo_kin, M_thr hS, z_ob (s_83 hS), l1 y hy, h5, or_true, true_or, or_false, false_or, z_b_T, z_b_F, Bool.false_eq_true, Classical.not_not, decide_eq_true_eq, z_sq, Option.bind_some, z_lits, z_n_add, z_n_mul, z_lt, z_le, z_eq, z_ne1, z_1ne, z_lt1, z_1lt, z_ltT, z_ltF, z_leT, z_leF, z_eqF, z_b_0, z_b_1, ↓reduceIte, eq_self, not_true_eq_false, not_false_eq_true, and_true, true_and, and_false, false_and, Nat.add_zero, Nat.zero_add]
        · simp (disch := omega) only [f_Mo_kin, M_thr hS, z_ob (s_83 hS), l2 a hao, or_true, true_or, or_false, false_or, z_b_T, z_b_F, Bool.false_eq_true, Classical.not_not, decide_eq_true_eq, z_sq, Option.bind_some, z_lits, z_n_add, z_n_mul, z_lt, z_le, z_eq, z_ne1, z_1ne, z_lt1, z_1lt, z_ltT, z_ltF, z_leT, z_leF, z_eqF, z_b_0, z_b_1, ↓reduceIte, eq_self, not_true_eq_false, not_false_eq_true, and_true, true_and, and_false, false_and, Nat.add_zero, Nat.zero_add]
    · have D := B.qD (s := x) (by omega)
      have D1 : z_ln I x ≤ 12 := D.1
      have r3 := z_ps_r h7.2.1
      rcases z_in a 11 (by omega) with ⟨y, hy, rfl⟩ | hao
      · have hy1 := C_has (J := J) (n := n) h7.2.1 h7.size D.1 hy
        rcases z_in b 11 (by omega) with ⟨z, hz, rfl⟩ | hbo
        · have hz1 := C_has (J := J) (n := n) h7.2.1 h7.size D.1 hz
          by_cases k1 : y < z_ln I x
          · by_cases k2 : z < z_ln I x
            · by_cases k3 : y = z
              · subst k3
                refine z_pr.same (r := -z_n 1) ?_ ?_ m
                · simp (disch := omega) only [f_Rs_kin, e8, z_ob (s_13 hS), C_pageOf hS hP, h6, r3, hy1, show y < (z_Ds I J x).1 from k1, or_true, true_or, or_false, false_or, z_b_T, z_b_F, Bool.false_eq_true, Classical.not_not, decide_eq_true_eq, z_sq, Option.bind_some, z_lits, z_n_add, z_n_mul, z_lt, z_le, z_eq, z_ne1, z_1ne, z_lt1, z_1lt, z_ltT, z_ltF, z_leT, z_leF, z_eqF, z_b_0, z_b_1, ↓reduceIte, eq_self, not_true_eq_false, not_false_eq_true, and_true, true_and, and_false, false_and, Nat.add_zero, Nat.zero_add]
                · simp (disch := omega) only [f_Mo_kin, M_thr hS, z_ob (s_83 hS), l1 y hy, h5, k1, or_true, true_or, or_false, false_or, z_b_T, z_b_F, Bool.false_eq_true, Classical.not_not, decide_eq_true_eq, z_sq, Option.bind_some, z_lits, z_n_add, z_n_mul, z_lt, z_le, z_eq, z_ne1, z_1ne, z_lt1, z_1lt, z_ltT, z_ltF, z_leT, z_leF, z_eqF, z_b_0, z_b_1, ↓reduceIte, eq_self, not_true_eq_false, not_false_eq_true, and_true, true_and, and_false, false_and, Nat.add_zero, Nat.zero_add]
              · have f1 := C_isFull (n := n) h7.2.1 h7.2.1 h7.2.2.1 h7.2.2.1 (a := y) (b := z) k1 k2 D.1 D.1
                have f2 := C_isHalf (n := n) h7.2.1 h7.2.2.1 (a := y) (b := z) k1 k2 D.1
                have ek := d_kin_fh D (a := y) (b := z) k1
                have mk := M_kinOf (n := n) (I := z_up I 83 0 (z_n 0)) (J := J) hS hP (a := 12 * x + y) (b := 12 * x + z) (by omega) (by omega)
                rw [z_kin_D I J] at mk
                refine z_pr.same (r := z_n (d_kin (z_Ds I J x) y z)) ?_ ?_ m
                · rw [ek]
                  by_cases q1 : d_full (z_Ds I J x) y (z_Ds I J x) z = true
                  · simp (disch := omega) only [f_Rs_kin, e8, z_ob (s_13 hS), C_pageOf hS hP, h6, r3, hy1, hz1, show y < (z_Ds I J x).1 from k1, show z < (z_Ds I J x).1 from k2, k3, f1, q1, or_true, true_or, or_false, false_or, z_b_T, z_b_F, Bool.false_eq_true, Classical.not_not, decide_eq_true_eq, z_sq, Option.bind_some, z_lits, z_n_add, z_n_mul, z_lt, z_le, z_eq, z_ne1, z_1ne, z_lt1, z_1lt, z_ltT, z_ltF, z_leT, z_leF, z_eqF, z_b_0, z_b_1, ↓reduceIte, eq_self, not_true_eq_false, not_false_eq_true, and_true, true_and, and_false, false_and, Nat.add_zero, Nat.zero_add]
                  · by_cases q2 : d_half (z_Ds I J x) y z = true
                    · simp (disch := omega) only [f_Rs_kin, e8, z_ob (s_13 hS), C_pageOf hS hP, h6, r3, hy1, hz1, show y < (z_Ds I J x).1 from k1, show z < (z_Ds I J x).1 from k2, k3, f1, q1, f2, q2, or_true, true_or, or_false, false_or, z_b_T, z_b_F, Bool.false_eq_true, Classical.not_not, decide_eq_true_eq, z_sq, Option.bind_some, z_lits, z_n_add, z_n_mul, z_lt, z_le, z_eq, z_ne1, z_1ne, z_lt1, z_1lt, z_ltT, z_ltF, z_leT, z_leF, z_eqF, z_b_0, z_b_1, ↓reduceIte, eq_self, not_true_eq_false, not_false_eq_true, and_true, true_and, and_false, false_and, Nat.add_zero, Nat.zero_add]
                    · simp (disch := omega) only [f_Rs_kin, e8, z_ob (s_13 hS), C_pageOf hS hP, h6, r3, hy1, hz1, show y < (z_Ds I J x).1 from k1, show z < (z_Ds I J x).1 from k2, k3, f1, q1, f2, q2, or_true, true_or, or_false, false_or, z_b_T, z_b_F, Bool.false_eq_true, Classical.not_not, decide_eq_true_eq, z_sq, Option.bind_some, z_lits, z_n_add, z_n_mul, z_lt, z_le, z_eq, z_ne1, z_1ne, z_lt1, z_1lt, z_ltT, z_ltF, z_leT, z_leF, z_eqF, z_b_0, z_b_1, ↓reduceIte, eq_self, not_true_eq_false, not_false_eq_true, and_true, true_and, and_false, false_and, Nat.add_zero, Nat.zero_add]
                · simp (disch := omega) only [f_Mo_kin, M_thr hS, z_ob (s_83 hS), l1 y hy, l1 z hz, h5, k1, k2, k3, mk, or_true, true_or, or_false, false_or, z_b_T, z_b_F, Bool.false_eq_true, Classical.not_not, decide_eq_true_eq, z_sq, Option.bind_some, z_lits, z_n_add, z_n_mul, z_lt, z_le, z_eq, z_ne1, z_1ne, z_lt1, z_1lt, z_ltT, z_ltF, z_leT, z_leF, z_eqF, z_b_0, z_b_1, ↓reduceIte, eq_self, not_true_eq_false, not_false_eq_true, and_true, true_and, and_false, false_and, Nat.add_zero, Nat.zero_add]
            · refine z_pr.same (r := -z_n 1) ?_ ?_ m
              · simp (disch := omega) only [f_Rs_kin, e8, z_ob (s_13 hS), C_pageOf hS hP, h6, r3, hy1, hz1, show y < (z_Ds I J x).1 from k1, show ¬ z < (z_Ds I J x).1 from k2, or_true, true_or, or_false, false_or, z_b_T, z_b_F, Bool.false_eq_true, Classical.not_not, decide_eq_true_eq, z_sq, Option.bind_some, z_lits, z_n_add, z_n_mul, z_lt, z_le, z_eq, z_ne1, z_1ne, z_lt1, z_1lt, z_ltT, z_ltF, z_leT, z_leF, z_eqF, z_b_0, z_b_1, ↓reduceIte, eq_self, not_true_eq_false, not_false_eq_true, and_true, true_and, and_false, false_and, Nat.add_zero, Nat.zero_add]
              · simp (disch := omega) only [f_Mo_kin, M_thr hS, z_ob (s_83 hS), l1 y hy, l1 z hz, h5, k1, k2, or_true, true_or, or_false, false_or, z_b_T, z_b_F, Bool.false_eq_true, Classical.not_not, decide_eq_true_eq, z_sq, Option.bind_some, z_lits, z_n_add, z_n_mul, z_lt, z_le, z_eq, z_ne1, z_1ne, z_lt1, z_1lt, z_ltT, z_ltF, z_leT, z_leF, z_eqF, z_b_0, z_b_1, ↓reduceIte, eq_self, not_true_eq_false, not_false_eq_true, and_true, true_and, and_false, false_and, Nat.add_zero, Nat.zero_add]
          · refine z_pr.same (r := -z_n 1) ?_ ?_ m
            · simp (disch := omega) only [f_Rs_kin, e8, z_ob (s_13 hS), C_pageOf hS hP, h6, r3, hy1, show ¬ y < (z_Ds I J x).1 from k1, or_true, true_or, or_false, false_or, z_b_T, z_b_F, Bool.false_eq_true, Classical.not_not, decide_eq_true_eq, z_sq, Option.bind_some, z_lits, z_n_add, z_n_mul, z_lt, z_le, z_eq, z_ne1, z_1ne, z_lt1, z_1lt, z_ltT, z_ltF, z_leT, z_leF, z_eqF, z_b_0, z_b_1, ↓reduceIte, eq_self, not_true_eq_false, not_false_eq_true, and_true, true_and, and_false, false_and, Nat.add_zero, Nat.zero_add]
            · simp (disch := omega) only [f_Mo_kin, M_thr hS, z_ob (s_83 hS), l1 y hy, h5, k1, or_true, true_or, or_false, false_or, z_b_T, z_b_F, Bool.false_eq_true, Classical.not_not, decide_eq_true_eq, z_sq, Option.bind_some, z_lits, z_n_add, z_n_mul, z_lt, z_le, z_eq, z_ne1, z_1ne, z_lt1, z_1lt, z_ltT, z_ltF, z_leT, z_leF, z_eqF, z_b_0, z_b_1, ↓reduceIte, eq_self, not_true_eq_false, not_false_eq_true, and_true, true_and, and_false, false_and, Nat.add_zero, Nat.zero_add]
        · have hz1 := C_has_o (J := J) (n := n) h7.2.1 h7.size D.1 hbo
          by_cases k1 : y < z_ln I x
          · refine z_pr.same (r := -z_n 1) ?_ ?_ m
            · simp (disch := omega) only [f_Rs_kin, e8, z_ob (s_13 hS), C_pageOf hS hP, h6, r3, hy1, hz1, show y < (z_Ds I J x).1 from k1, or_true, true_or, or_false, false_or, z_b_T, z_b_F, Bool.false_eq_true, Classical.not_not, decide_eq_true_eq, z_sq, Option.bind_some, z_lits, z_n_add, z_n_mul, z_lt, z_le, z_eq, z_ne1, z_1ne, z_lt1, z_1lt, z_ltT, z_ltF, z_leT, z_leF, z_eqF, z_b_0, z_b_1, ↓reduceIte, eq_self, not_true_eq_false, not_false_eq_true, and_true, true_and, and_false, false_and, Nat.add_zero, Nat.zero_add]
            · simp (disch := omega) only [f_Mo_kin, M_thr hS, z_ob (s_83 hS), l1 y hy, l2 b hbo, h5, k1, or_true, true_or, or_false, false_or, z_b_T, z_b_F, Bool.false_eq_true, Classical.not_not, decide_eq_true_eq, z_sq, Option.bind_some, z_lits, z_n_add, z_n_mul, z_lt, z_le, z_eq, z_ne1, z_1ne, z_lt1, z_1lt, z_ltT, z_ltF, z_leT, z_leF, z_eqF, z_b_0, z_b_1, ↓reduceIte, eq_self, not_true_eq_false, not_false_eq_true, and_true, true_and, and_false, false_and, Nat.add_zero, Nat.zero_add]
          · refine z_pr.same (r := -z_n 1) ?_ ?_ m
            · simp (disch := omega) only [f_Rs_kin, e8, z_ob (s_13 hS), C_pageOf hS hP, h6, r3, hy1, show ¬ y < (z_Ds I J x).1 from k1, or_true, true_or, or_false, false_or, z_b_T, z_b_F, Bool.false_eq_true, Classical.not_not, decide_eq_true_eq, z_sq, Option.bind_some, z_lits, z_n_add, z_n_mul, z_lt, z_le, z_eq, z_ne1, z_1ne, z_lt1, z_1lt, z_ltT, z_ltF, z_leT, z_leF, z_eqF, z_b_0, z_b_1, ↓reduceIte, eq_self, not_true_eq_false, not_false_eq_true, and_true, true_and, and_false, false_and, Nat.add_zero, Nat.zero_add]
            · simp (disch := omega) only [f_Mo_kin, M_thr hS, z_ob (s_83 hS), l1 y hy, h5, k1, or_true, true_or, or_false, false_or, z_b_T, z_b_F, Bool.false_eq_true, Classical.not_not, decide_eq_true_eq, z_sq, Option.bind_some, z_lits, z_n_add, z_n_mul, z_lt, z_le, z_eq, z_ne1, z_1ne, z_lt1, z_1lt, z_ltT, z_ltF, z_leT, z_leF, z_eqF, z_b_0, z_b_1, ↓reduceIte, eq_self, not_true_eq_false, not_false_eq_true, and_true, true_and, and_false, false_and, Nat.add_zero, Nat.zero_add]
      · refine z_pr.same (r := -z_n 1) ?_ ?_ m
        · simp (disch := omega) only [f_Rs_kin, e8, z_ob (s_13 hS), C_pageOf hS hP, h6, r3, C_has_o (J := J) (n := n) h7.2.1 h7.size D.1 hao, or_true, true_or, or_false, false_or, z_b_T, z_b_F, Bool.false_eq_true, Classical.not_not, decide_eq_true_eq, z_sq, Option.bind_some, z_lits, z_n_add, z_n_mul, z_lt, z_le, z_eq, z_ne1, z_1ne, z_lt1, z_1lt, z_ltT, z_ltF, z_leT, z_leF, z_eqF, z_b_0, z_b_1, ↓reduceIte, eq_self, not_true_eq_false, not_false_eq_true, and_true, true_and, and_false, false_and, Nat.add_zero, Nat.zero_add]
        · simp (disch := omega) only [f_Mo_kin, M_thr hS, z_ob (s_83 hS), l2 a hao, or_true, true_or, or_false, false_or, z_b_T, z_b_F, Bool.false_eq_true, Classical.not_not, decide_eq_true_eq, z_sq, Option.bind_some, z_lits, z_n_add, z_n_mul, z_lt, z_le, z_eq, z_ne1, z_1ne, z_lt1, z_1lt, z_ltT, z_ltF, z_leT, z_leF, z_eqF, z_b_0, z_b_1, ↓reduceIte, eq_self, not_true_eq_false, not_false_eq_true, and_true, true_and, and_false, false_and, Nat.add_zero, Nat.zero_add]
  · refine z_pr.same (r := -z_n 1) ?_ ?_ m
    · simp (disch := omega) only [f_Rs_kin, e8, z_ob (s_13 hS), C_pageOf_o ho, or_true, true_or, or_false, false_or, z_b_T, z_b_F, Bool.false_eq_true, Classical.not_not, decide_eq_true_eq, z_sq, Option.bind_some, z_lits, z_n_add, z_n_mul, z_lt, z_le, z_eq, z_ne1, z_1ne, z_lt1, z_1lt, z_ltT, z_ltF, z_leT, z_leF, z_eqF, z_b_0, z_b_1, ↓reduceIte, eq_self, not_true_eq_false, not_false_eq_true, and_true, true_and, and_false, false_and, Nat.add_zero, Nat.zero_add]
    · simp (disch := omega) only [f_Mo_kin, M_thr hS, z_ob (s_83 hS), M_isLine_oo hS hP ho, or_true, true_or, or_false, false_or, z_b_T, z_b_F, Bool.false_eq_true, Classical.not_not, decide_eq_true_eq, z_sq, Option.bind_some, z_lits, z_n_add, z_n_mul, z_lt, z_le, z_eq, z_ne1, z_1ne, z_lt1, z_1lt, z_ltT, z_ltF, z_leT, z_leF, z_eqF, z_b_0, z_b_1, ↓reduceIte, eq_self, not_true_eq_false, not_false_eq_true, and_true, true_and, and_false, false_and, Nat.add_zero, Nat.zero_add]
end
