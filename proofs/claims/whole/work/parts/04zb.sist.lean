/-! could, sisters: the pairs. -/
theorem z_ra_sc {x y R : Nat} {what : Int32} (hR : 0 < R) (hy : 0 < y) : z_ra ((x * R : Nat) : Int) (y * R) what = z_ra (x : Nat) y what := by
  have hg : 0 < Nat.gcd x y := Nat.gcd_pos_of_pos_right _ hy
  have e1 : Nat.gcd (x * R) (y * R) = Nat.gcd x y * R := Nat.gcd_mul_right x R y
  unfold z_ra
  rw [Int.natAbs_natCast, Int.natAbs_natCast, e1, ← Int.ofNat_tdiv, ← Int.ofNat_tdiv, Nat.mul_div_mul_right _ _ hR, Nat.mul_div_mul_right _ _ hR]
theorem z_e16 : z_z ((10000000000000000 : Nat) : Int) = (10000000000000000 : Int64) := rfl
section
variable {S : z_SH} {I : z_MI} {J : z_MJ} {P : z_MP} {K : Nat → Bool} {n : Nat × Nat}
set_option maxRecDepth 100000 in
set_option maxHeartbeats 4000000 in
theorem X_could (B : z_B S I J P K n.1) (t a w d : Int32) : z_pr (f_Rs_could 8 t a w d) (f_Mo_could 83 t a w d) S I J P K n := by
  have hS := B.qS
  have hP := B.qP
  have hn := B.qn
  have m : z_mf I J (z_up I 83 0 (z_n 0)) J := z_mf.up rfl
  rcases z_in t 3 (by omega) with ⟨x, hx, rfl⟩ | ho
  · rcases z_in a 120 (by omega) with ⟨y, hy, rfl⟩ | hao
    · rcases z_in w 30 (by omega) with ⟨z, hz, rfl⟩ | hwo
      · rcases z_d1 (d := d) with hd | hd
        · -- the new Ratio is made ahead of its numbers
          obtain ⟨g1, g2, g3⟩ := u_BR I y z 4
          have nb := u_NB I x y z 4
          have bp := u_Bp I y z (i := 4) (by omega)
          have np := u_NRp I x y z (i := 4) (by omega)
          have e4 : (10000 : Nat) ^ 4 = 10000000000000000 := by decide
          rw [e4] at g1
          have eA : 10000000000000000 - u_N I x y z 4 * u_R I y z 4 = (u_B I y z 4 - u_N I x y z 4) * u_R I y z 4 := by rw [Nat.sub_mul, g1]
          have mk := z_mk_ra (S := S) (I := I) (J := J) (P := P) (n := n)
          have g0 : z_ag n.1 z_nil S I J P (z_us S n.1 (10, [1, 1])) (z_ri I n.1 fun _ => z_n 0) (z_rj J n.1 fun _ => 0) (z_rp P n.1 fun _ => none) := fun a ha => ⟨⟨z_us_a (by omega), z_rp_a (by omega)⟩, fun _ => ⟨z_ri_a (by omega), z_rj_a (by omega)⟩⟩
          have B1 : z_B (z_us S n.1 (10, [1, 1])) (z_ri I n.1 fun _ => z_n 0) (z_rj J n.1 fun _ => 0) (z_rp P n.1 fun _ => none) K (n.1 + 1, n.2 + 2).1 := B.mono z_keep0 g0 (by simp)
          have cg := g0.cg (K := K) z_keep0 B.2.2.1.2 hn
          have od := C_odds (n := (n.1 + 1, n.2 + 2)) B1 (t := x) (a := y) (w := z) (by omega) hy hz
          have eN : ∀ i, u_N (z_ri I n.1 fun _ => z_n 0) x y z i = u_N I x y z i ∧ u_R (z_ri I n.1 fun _ => z_n 0) y z i = u_R I y z i := by
            intro i
            have q1 : u_gn (z_ri I n.1 fun _ => z_n 0) = u_gn I := by unfold u_gn; rw [cg.2.2.1]
            have q2 : ∀ i, u_gy (z_ri I n.1 fun _ => z_n 0) i = u_gy I i := fun i => by unfold u_gy; rw [cg.i _ rfl]
            have q3 : ∀ i, u_as (z_ri I n.1 fun _ => z_n 0) y z i = u_as I y z i := fun i => by unfold u_as; rw [q1, q2]
            have q4 : ∀ i, u_fc (z_ri I n.1 fun _ => z_n 0) x y i = u_fc I x y i := fun i => by unfold u_fc; rw [q2, u_at_c cg]
            induction i with
            | zero => exact ⟨rfl, rfl⟩
            | succ i ih => rw [u_N, u_N, u_R, u_R, q3, q4, ih.1, ih.2]; exact ⟨rfl, rfl⟩
          rw [(eN 4).1, (eN 4).2, eA] at od
          obtain ⟨S', I', J', P', k1, k2, k3⟩ := C_Ra_init (S := S) (I := I) (J := J) (P := P) (n := n) (A := ((u_B I y z 4 - u_N I x y z 4) * u_R I y z 4 : Nat)) (b := 10000000000000000) (by omega) (by omega) (by omega) (by omega)
          rw [mk] at k1
          have B2S := hS.mono k2 hn
          have B2P := hP.mono k2 hn
          have cg2 := k2.cg (K := K) z_keep0 B.2.2.1.2 hn
          have m' : z_mf I' J' (z_up I' 83 0 (z_n 0)) J' := z_mf.up rfl
          have co := M_couldOf B B2S B2P (cg2.trans m'.cg) (n' := (n.1 + 1, n.2 + 2)) (t := x) (a := y) (w := z) (by omega) hy hz
          have lo := M_lowest (A := ((u_B I y z 4 - u_N I x y z 4 : Nat) : Int)) (b := u_B I y z 4) (what := d) (σ := z_h S' (z_up I' 83 0 (z_n 0)) (z_uj J' 83 34 (z_z (u_B I y z 4 : Nat))) P' (n.1 + 1, n.2 + 2)) (by omega) (by omega) g2
          have sc := z_ra_sc (x := u_B I y z 4 - u_N I x y z 4) (y := u_B I y z 4) (what := d) g3 g2
          rw [g1] at sc
          have r34 : ∀ I J P n, q_gl' (q_gf (z_h S' I J P n) 12 83 34) = some (J 83 34) := fun _ _ _ _ => z_gl (s_83 B2S) rfl
          refine z_pr.mk' (r := z_ra (u_B I y z 4 - u_N I x y z 4 : Nat) (u_B I y z 4) d) (n' := (n.1 + 1, n.2 + 2)) k2.x0 ⟨by simp, by simp, by simp⟩ (m'.trans (z_mf.uj (a := 83) (i := 34) (v := z_z (u_B I y z 4 : Nat)) rfl)) ?_ ?_
          · have ma : ∀ k : q_H → Nat → Option (Int64 × q_H), q_ma (z_h S I J P n) 10 [.long 0, .long 0] k = k (z_h (z_us S n.1 (10, [1, 1])) (z_ri I n.1 fun _ => z_n 0) (z_rj J n.1 fun _ => 0) (z_rp P n.1 fun _ => none) (n.1 + 1, n.2 + 2)) n.1 := by
              intro k
              unfold q_ma
              rw [mk]; rfl
            rw [z_e16] at k1
            have c7 := C_lives (n := (n.1 + 1, n.2 + 2)) (I := z_ri I n.1 fun _ => z_n 0) (J := z_rj J n.1 fun _ => 0) B1.qS B1.qP
            have r0 : q_gl' (q_gf (z_h S' I' J' P' (n.1 + 1, n.2 + 2)) 10 n.1 0) = some (J' n.1 0) := z_gl k3.1 rfl
            have r1 : q_gl' (q_gf (z_h S' I' J' P' (n.1 + 1, n.2 + 2)) 10 n.1 1) = some (J' n.1 1) := z_gl k3.1 rfl
            rw [← sc]
            unfold z_ra
            rcases hd with rfl | rfl
            · simp (disch := omega) only [f_Rs_could, C_isTable hx, C_in, ma, c7, z_sq, Option.bind_some, z_lits, z_eq, z_eqF, ↓reduceIte, eq_self]
              rw [od, z_sq, k1, z_sq, r0, Option.bind_some, k3.2.1]
            · simp (disch := omega) only [f_Rs_could, C_isTable hx, C_in, ma, c7, z_sq, Option.bind_some, z_lits, z_eq, z_eqF, ↓reduceIte, eq_self]
              rw [od, z_sq, k1, z_sq, r1, Option.bind_some, k3.2.2]
          · simp (disch := omega) only [f_Mo_could, M_thr B2S, M_isTable hx, M_win, M_wi1 hd, z_ob (s_83 B2S), co, r34, z_uj_s, lo, or_true, true_or, or_false, false_or, z_b_T, z_b_F, Bool.false_eq_true, Classical.not_not, decide_eq_true_eq, z_sq, Option.bind_some, z_lits, z_n_add, z_n_mul, z_lt, z_le, z_eq, z_ne1, z_1ne, z_lt1, z_1lt, z_ltT, z_ltF, z_leT, z_leF, z_eqF, z_b_0, z_b_1, ↓reduceIte, eq_self, not_true_eq_false, not_false_eq_true, and_true, true_and, and_false, false_and, Nat.add_zero, Nat.zero_add]
        · refine z_pr.same (r := -1) ?_ ?_ m
          · simp (disch := omega) only [f_Rs_could, C_isTable hx, C_in, C_out hd, or_true, true_or, or_false, false_or, z_b_T, z_b_F, Bool.false_eq_true, Classical.not_not, decide_eq_true_eq, z_sq, Option.bind_some, z_lits, z_n_add, z_n_mul, z_lt, z_le, z_eq, z_ne1, z_1ne, z_lt1, z_1lt, z_ltT, z_ltF, z_leT, z_leF, z_eqF, z_b_0, z_b_1, ↓reduceIte, eq_self, not_true_eq_false, not_false_eq_true, and_true, true_and, and_false, false_and, Nat.add_zero, Nat.zero_add]
          · simp (disch := omega) only [f_Mo_could, M_thr hS, M_isTable hx, M_win, M_wout hd, or_true, true_or, or_false, false_or, z_b_T, z_b_F, Bool.false_eq_true, Classical.not_not, decide_eq_true_eq, z_sq, Option.bind_some, z_lits, z_n_add, z_n_mul, z_lt, z_le, z_eq, z_ne1, z_1ne, z_lt1, z_1lt, z_ltT, z_ltF, z_leT, z_leF, z_eqF, z_b_0, z_b_1, ↓reduceIte, eq_self, not_true_eq_false, not_false_eq_true, and_true, true_and, and_false, false_and, Nat.add_zero, Nat.zero_add]
      · refine z_pr.same (r := -1) ?_ ?_ m
        · simp (disch := omega) only [f_Rs_could, C_isTable hx, C_in, C_out hwo, or_true, true_or, or_false, false_or, z_b_T, z_b_F, Bool.false_eq_true, Classical.not_not, decide_eq_true_eq, z_sq, Option.bind_some, z_lits, z_n_add, z_n_mul, z_lt, z_le, z_eq, z_ne1, z_1ne, z_lt1, z_1lt, z_ltT, z_ltF, z_leT, z_leF, z_eqF, z_b_0, z_b_1, ↓reduceIte, eq_self, not_true_eq_false, not_false_eq_true, and_true, true_and, and_false, false_and, Nat.add_zero, Nat.zero_add]
        · simp (disch := omega) only [f_Mo_could, M_thr hS, M_isTable hx, M_win, M_wout hwo, or_true, true_or, or_false, false_or, z_b_T, z_b_F, Bool.false_eq_true, Classical.not_not, decide_eq_true_eq, z_sq, Option.bind_some, z_lits, z_n_add, z_n_mul, z_lt, z_le, z_eq, z_ne1, z_1ne, z_lt1, z_1lt, z_ltT, z_ltF, z_leT, z_leF, z_eqF, z_b_0, z_b_1, ↓reduceIte, eq_self, not_true_eq_false, not_false_eq_true, and_true, true_and, and_false, false_and, Nat.add_zero, Nat.zero_add]
    · refine z_pr.same (r := -1) ?_ ?_ m
      · simp (disch := omega) only [f_Rs_could, C_isTable hx, C_out hao, or_true, true_or, or_false, false_or, z_b_T, z_b_F, Bool.false_eq_true, Classical.not_not, decide_eq_true_eq, z_sq, Option.bind_some, z_lits, z_n_add, z_n_mul, z_lt, z_le, z_eq, z_ne1, z_1ne, z_lt1, z_1lt, z_ltT, z_ltF, z_leT, z_leF, z_eqF, z_b_0, z_b_1, ↓reduceIte, eq_self, not_true_eq_false, not_false_eq_true, and_true, true_and, and_false, false_and, Nat.add_zero, Nat.zero_add]
      · simp (disch := omega) only [f_Mo_could, M_thr hS, M_isTable hx, M_wout hao, or_true, true_or, or_false, false_or, z_b_T, z_b_F, Bool.false_eq_true, Classical.not_not, decide_eq_true_eq, z_sq, Option.bind_some, z_lits, z_n_add, z_n_mul, z_lt, z_le, z_eq, z_ne1, z_1ne, z_lt1, z_1lt, z_ltT, z_ltF, z_leT, z_leF, z_eqF, z_b_0, z_b_1, ↓reduceIte, eq_self, not_true_eq_false, not_false_eq_true, and_true, true_and, and_false, false_and, Nat.add_zero, Nat.zero_add]
  · refine z_pr.same (r := -1) ?_ ?_ m
    · simp (disch := omega) only [f_Rs_could, C_isTable_o ho, or_true, true_or, or_false, false_or, z_b_T, z_b_F, Bool.false_eq_true, Classical.not_not, decide_eq_true_eq, z_sq, Option.bind_some, z_lits, z_n_add, z_n_mul, z_lt, z_le, z_eq, z_ne1, z_1ne, z_lt1, z_1lt, z_ltT, z_ltF, z_leT, z_leF, z_eqF, z_b_0, z_b_1, ↓reduceIte, eq_self, not_true_eq_false, not_false_eq_true, and_true, true_and, and_false, false_and, Nat.add_zero, Nat.zero_add]
    · simp (disch := omega) only [f_Mo_could, M_thr hS, M_isTable_o ho, or_true, true_or, or_false, false_or, z_b_T, z_b_F, Bool.false_eq_true, Classical.not_not, decide_eq_true_eq, z_sq, Option.bind_some, z_lits, z_n_add, z_n_mul, z_lt, z_le, z_eq, z_ne1, z_1ne, z_lt1, z_1lt, z_ltT, z_ltF, z_leT, z_leF, z_eqF, z_b_0, z_b_1, ↓reduceIte, eq_self, not_true_eq_false, not_false_eq_true, and_true, true_and, and_false, false_and, Nat.add_zero, Nat.zero_add]
/-- COULD of the man of a MARRIAGE, in parts; a FULL one -/
def u_os (I : z_MI) (t w s l : Nat) : Nat := if z_wf I s l = true then 10000000000000000 - u_N I t (u_ag I (12 * s + z_hb I (12 * s + l))) w 4 * u_R I (u_ag I (12 * s + z_hb I (12 * s + l))) w 4 else 0
def u_fu (I : z_MI) (J : z_MJ) (s l : Nat) : Nat := z_cl I J (z_n 1) (z_n 2) s l
def u_ss (f : Nat → Nat → Nat) (I : z_MI) (s : Nat) : Nat := if z_th I s = true then z_sum (z_ln I s) (f s) else 0
theorem u_ss_le {I : z_MI} (hL : z_lL I) {f : Nat → Nat → Nat} {b : Nat} (hf : ∀ s l, f s l ≤ b) : ∀ N, N ≤ 24 → z_sum N (u_ss f I) ≤ N * (12 * b) := by
  intro N hN
  refine z_sum_le _ (12 * b) N (fun s hs => ?_)
  unfold u_ss
  have h1 := z_sum_le (f s) b (z_ln I s) (fun i _ => hf s i)
  have h2 := (hL s (by omega)).2
  have h3 : z_ln I s * b ≤ 12 * b := Nat.mul_le_mul_right b h2
  split <;> omega
theorem u_os_le (I : z_MI) (t w s l : Nat) : u_os I t w s l ≤ 10000000000000000 := by unfold u_os; split <;> omega
theorem u_fu_0 {I : z_MI} {J : z_MJ} {s l : Nat} (hw : z_wf I s l = true) : u_fu I J s l = if d_so (z_Ds I J s) l = 0 then 1 else 0 := by
  have h1 := d_so_le (z_Ds I J s) l
  have h2 := d_tk_le (z_Ds I J s) l
  have h3 := z_w_1 0 (by omega) (d_so (z_Ds I J s) l) (by omega) (d_tk (z_Ds I J s) l) (by omega)
  have e : u_fu I J s l = z_w (z_n 1) (z_n 2) (d_so (z_Ds I J s) l) (d_tk (z_Ds I J s) l) := by
    unfold u_fu z_cl z_w
    rw [hw, z_so_D, z_tk_D]
    simp only [true_and]
  rw [e, show z_n 2 = z_n (2 - 0) from rfl, h3]
  simp only [show d_tk (z_Ds I J s) l < 3 - 0 by omega, true_and]
theorem u_fu_sum (I : z_MI) (J : z_MJ) : z_sum 24 (u_ss (u_fu I J) I) = z_co I J (z_n 0) (z_n 0) (-z_n 1) (z_n 1) (z_n 2) := by
  refine z_sum_eq (fun s hs => ?_)
  unfold u_ss z_cs
  rw [z_ii0]
  simp (disch := omega) only [z_ne1, not_false_eq_true, true_and]
  rfl
set_option maxRecDepth 100000 in
set_option maxHeartbeats 4000000 in
theorem C_sistL (B : z_B S I J P K n.1) {s p t w : Nat} {x y : Nat} {d v8 : Int32} (hs : s < 24) (ht : t < 4) (hw : w ≤ 30) (hth : z_th I s = true) (h : z_pg S I J P K n.1 p (z_Ds I J s)) : f_Rs_sisters_L60 8 (z_n t) (z_n w) d v8 (some p) q_FU (z_z x) (z_z y) (z_n 0) (z_h S I J P n) = some ((z_z (x + z_sum (z_ln I s) (u_os I t w s) : Nat), z_z (y + z_sum (z_ln I s) (u_fu I J s) : Nat)), z_h S I J P n) := by
  have hS := B.qS
  have hP := B.qP
  have h12 := (B.qL s (by omega)).2
  have r3 := z_ps_r h.2.1
  have e := z_run (fun m i => f_Rs_sisters_L60 8 (z_n t) (z_n w) d v8 (some p) m (z_z (x + z_sum i (u_os I t w s) : Nat)) (z_z (y + z_sum i (u_fu I J s) : Nat)) (z_n i) (z_h S I J P n)) (z_ln I s) (r := some ((z_z (x + z_sum (z_ln I s) (u_os I t w s) : Nat), z_z (y + z_sum (z_ln I s) (u_fu I J s) : Nat)), z_h S I J P n)) (by omega)
    (by
      intro m i hi
      have w0 : I (p + 7) i = I 93 (12 * s + i) := h.2.2.1.w hi
      by_cases hwf : z_wf I s i = true
      · obtain ⟨p', k1, k2, k3, k4, k5, k6, k7⟩ := B.wife hs hwf
        have hy1 := C_has (J := J) (n := n) h.2.1 h.size (B.qD hs).1 (l := z_hb I (12 * s + i)) (by omega)
        have ag := h.age k7
        have ⟨ea, ea2⟩ := B.ag hs k7
        have od := C_odds (n := n) B ht ea2 hw
        have e9 := (h.2.2.2.1 i hi).1
        rw [if_pos k5] at e9
        have hle := d_so_le (z_Ds I J s) i
        have q1 : z_sum (i + 1) (u_os I t w s) = z_sum i (u_os I t w s) + (10000000000000000 - u_N I t (u_ag I (12 * s + z_hb I (12 * s + i))) w 4 * u_R I (u_ag I (12 * s + z_hb I (12 * s + i))) w 4) := by
          rw [z_sum_s]; congr 1; exact if_pos hwf
        have q2 : z_sum (i + 1) (u_fu I J s) = z_sum i (u_fu I J s) + if d_so (z_Ds I J s) i = 0 then 1 else 0 := by
          rw [z_sum_s, u_fu_0 hwf]
        by_cases h0 : d_so (z_Ds I J s) i = 0
        · rw [if_pos h0] at q2
          simp (disch := omega) only [f_Rs_sisters_L60, r3, h.size, w0, k6, hy1, show z_hb I (12 * s + i) < (z_Ds I J s).1 from k7, C_lives hS hP, ag, ea, od, e9, h0, z_z_add, q1, q2, z_z0, Int.natCast_add, Nat.add_assoc, Int.add_assoc, or_true, true_or, or_false, false_or, z_b_T, z_b_F, Bool.false_eq_true, Classical.not_not, decide_eq_true_eq, z_sq, Option.bind_some, z_lits, z_n_add, z_n_mul, z_lt, z_le, z_eq, z_ne1, z_1ne, z_lt1, z_1lt, z_ltT, z_ltF, z_leT, z_leF, z_eqF, z_b_0, z_b_1, ↓reduceIte, eq_self, not_true_eq_false, not_false_eq_true, and_true, true_and, and_false, false_and, Nat.add_zero, Nat.zero_add]
          rfl
        · rw [if_neg h0] at q2
          simp (disch := omega) only [f_Rs_sisters_L60, r3, h.size, w0, k6, hy1, show z_hb I (12 * s + i) < (z_Ds I J s).1 from k7, C_lives hS hP, ag, ea, od, e9, h0, z_z_add, q1, q2, z_z0, Int.natCast_add, Nat.add_assoc, Int.add_assoc, Int.add_zero, or_true, true_or, or_false, false_or, z_b_T, z_b_F, Bool.false_eq_true, Classical.not_not, decide_eq_true_eq, z_sq, Option.bind_some, z_lits, z_n_add, z_n_mul, z_lt, z_le, z_eq, z_ne1, z_1ne, z_lt1, z_1lt, z_ltT, z_ltF, z_leT, z_leF, z_eqF, z_b_0, z_b_1, ↓reduceIte, eq_self, not_true_eq_false, not_false_eq_true, and_true, true_and, and_false, false_and, Nat.add_zero, Nat.zero_add]
      · have e1 : I 93 (12 * s + i) = -z_n 1 := by
          by_cases e1 : I 93 (12 * s + i) = -z_n 1
          · exact e1
          · exact absurd (decide_eq_true ⟨hth, hi, e1⟩) hwf
        have hy1 : f_Pa_has p (-z_n 1) (z_h S I J P n) = some (z_n 0, z_h S I J P n) := C_has_o (J := J) (n := n) h.2.1 h.size (B.qD hs).1 (Or.inl (by decide))
        have q1 : z_sum (i + 1) (u_os I t w s) = z_sum i (u_os I t w s) := by
          rw [z_sum_s, show u_os I t w s i = 0 from if_neg hwf, Nat.add_zero]
        have q2 : z_sum (i + 1) (u_fu I J s) = z_sum i (u_fu I J s) := by
          rw [z_sum_s, show u_fu I J s i = 0 from if_neg (fun q => hwf q.1), Nat.add_zero]
        simp (disch := omega) only [f_Rs_sisters_L60, r3, h.size, w0, e1, hy1, q1, q2, or_true, true_or, or_false, false_or, z_b_T, z_b_F, Bool.false_eq_true, Classical.not_not, decide_eq_true_eq, z_sq, Option.bind_some, z_lits, z_n_add, z_n_mul, z_lt, z_le, z_eq, z_ne1, z_1ne, z_lt1, z_1lt, z_ltT, z_ltF, z_leT, z_leF, z_eqF, z_b_0, z_b_1, ↓reduceIte, eq_self, not_true_eq_false, not_false_eq_true, and_true, true_and, and_false, false_and, Nat.add_zero, Nat.zero_add])
    (by
      intro m
      simp (disch := omega) only [f_Rs_sisters_L60, r3, h.size, or_true, true_or, or_false, false_or, z_b_T, z_b_F, Bool.false_eq_true, Classical.not_not, decide_eq_true_eq, z_sq, Option.bind_some, z_lits, z_n_add, z_n_mul, z_lt, z_le, z_eq, z_ne1, z_1ne, z_lt1, z_1lt, z_ltT, z_ltF, z_leT, z_leF, z_eqF, z_b_0, z_b_1, ↓reduceIte, eq_self, not_true_eq_false, not_false_eq_true, and_true, true_and, and_false, false_and, Nat.add_zero, Nat.zero_add])
  simp only [z_sum_0, Nat.add_zero] at e
  exact e
set_option maxRecDepth 100000 in
set_option maxHeartbeats 4000000 in
theorem M_sistL (B : z_B S I J P K n.1) {S' : z_SH} {P' : z_MP} {n' : Nat × Nat} (hS' : z_St S') (hP' : z_Pt P') {I1 : z_MI} {J0 J1 : z_MJ} (c : z_cg I J I1 J0) {s t w : Nat} {x : Nat} {d : Int32} (hs : s < 24) (ht : t < 4) (hw : w ≤ 30) (m1 : z_mf I1 J0 I1 J1) : ∃ J2, f_Mo_sisters_L56 83 (z_n t) (z_n w) d (z_z 10000000000000000) (z_n s) q_FU (z_z x) (z_n 0) (z_h S' I1 J1 P' n') = some (z_z (x + u_ss (u_os I t w) I s : Nat), z_h S' I1 J2 P' n') ∧ z_mf I1 J0 I1 J2 := by
  have h12 := (B.qL s (by omega)).2
  have eL := (B.qL s (by omega)).1
  have th := fun (J1 : z_MJ) (c1 : z_cg I J I1 J1) => M_isThere (n := n') (I := I1) (J := J1) hS' hP' hs
  by_cases h5 : z_th I s = true
  · have key := z_runI (fun m i (X : z_MJ) => f_Mo_sisters_L56 83 (z_n t) (z_n w) d (z_z 10000000000000000) (z_n s) m (z_z (x + z_sum i (u_os I t w s) : Nat)) (z_n i) (z_h S' I1 X P' n')) (z_ln I s) (fun i X => z_mf I1 J0 I1 X)
      (fun r => ∃ J2, r = some (z_z (x + z_sum (z_ln I s) (u_os I t w s) : Nat), z_h S' I1 J2 P' n') ∧ z_mf I1 J0 I1 J2) (by omega)
      (by
        intro m i X hi q
        have c1 : z_cg I J I1 X := c.trans q.cg
        have t1 := th X c1
        rw [z_th_c c1] at t1
        have v1 := c1.i 90 rfl s
        have iw := M_iw B hS' hP' c1 (n' := n') hs (l := i) (by omega)
        by_cases hwf : z_wf I s i = true
        · obtain ⟨p', k1, k2, k3, k4, k5, k6, k7⟩ := B.wife hs hwf
          have ⟨ea, ea2⟩ := B.ag hs k7
          have v2 := c1.i 92 rfl (12 * s + z_hb I (12 * s + i))
          have hu := (M_wsort B hS' hP' c1 (n' := n') hs hwf).2.2
          have co := M_couldOf B hS' hP' c1 (n' := n') ht ea2 hw
          have r34 : ∀ I J P n, q_gl' (q_gf (z_h S' I J P n) 12 83 34) = some (J 83 34) := fun _ _ _ _ => z_gl (s_83 hS') rfl
          obtain ⟨g1, g2, g3⟩ := u_BR I (u_ag I (12 * s + z_hb I (12 * s + i))) w 4
          have bp := u_Bp I (u_ag I (12 * s + z_hb I (12 * s + i))) w (i := 4) (by omega)
          have nz : ¬ z_z (u_B I (u_ag I (12 * s + z_hb I (12 * s + i))) w 4 : Nat) = 0 := by
            rw [z_z0.1, z_z_eq (by omega) (by omega) (by omega) (by omega)]; omega
          have e4 : (10000 : Nat) ^ 4 = 10000000000000000 := by decide
          rw [e4] at g1
          have eR : z_z 10000000000000000 / z_z (u_B I (u_ag I (12 * s + z_hb I (12 * s + i))) w 4 : Nat) = z_z (u_R I (u_ag I (12 * s + z_hb I (12 * s + i))) w 4 : Nat) := by
            rw [z_z_div (by omega) (by omega) (by omega) (by omega)]
            have : (10000000000000000 : Int) = ((u_B I (u_ag I (12 * s + z_hb I (12 * s + i))) w 4 * u_R I (u_ag I (12 * s + z_hb I (12 * s + i))) w 4 : Nat) : Int) := by rw [g1]; rfl
            rw [this, ← Int.ofNat_tdiv, Nat.mul_div_cancel_left _ g2]
          have eS : z_z (x + z_sum i (u_os I t w s) : Nat) + z_z ((u_B I (u_ag I (12 * s + z_hb I (12 * s + i))) w 4 - u_N I t (u_ag I (12 * s + z_hb I (12 * s + i))) w 4 : Nat)) * z_z (u_R I (u_ag I (12 * s + z_hb I (12 * s + i))) w 4 : Nat) = z_z (x + z_sum (i + 1) (u_os I t w s) : Nat) := by
            rw [z_z_mul, z_z_add, ← Int.natCast_mul, Nat.sub_mul, g1, ← Int.natCast_add, z_sum_s, Nat.add_assoc]
            congr 3
            exact congrArg _ (if_pos hwf).symm
          refine ⟨z_uj X 83 34 (z_z (u_B I (u_ag I (12 * s + z_hb I (12 * s + i))) w 4 : Nat)), q.trans (z_mf.uj rfl), ?_⟩
          have hl : f_Mo_sisters_L56 83 (z_n t) (z_n w) d (z_z 10000000000000000) (z_n s) (m + 1) (z_z (x + z_sum i (u_os I t w s) : Nat)) (z_n i) (z_h S' I1 X P' n') = f_Mo_sisters_L56 83 (z_n t) (z_n w) d (z_z 10000000000000000) (z_n s) m (z_z (x + z_sum i (u_os I t w s) : Nat) + z_z ((u_B I (u_ag I (12 * s + z_hb I (12 * s + i))) w 4 - u_N I t (u_ag I (12 * s + z_hb I (12 * s + i))) w 4 : Nat)) * (z_z 10000000000000000 / z_z (u_B I (u_ag I (12 * s + z_hb I (12 * s + i))) w 4 : Nat))) (z_n (i + 1)) (z_h S' I1 (z_uj X 83 34 (z_z (u_B I (u_ag I (12 * s + z_hb I (12 * s + i))) w 4 : Nat))) P' n') := by
            simp (disch := omega) only [f_Mo_sisters_L56, z_ob (s_83 hS'), t1, h5, z_Mr hS' hP', v1, eL, iw, hwf, hu, v2, ea, or_true, true_or, or_false, false_or, z_b_T, z_b_F, Bool.false_eq_true, Classical.not_not, decide_eq_true_eq, z_sq, Option.bind_some, z_lits, z_n_add, z_n_mul, z_lt, z_le, z_eq, z_ne1, z_1ne, z_lt1, z_1lt, z_ltT, z_ltF, z_leT, z_leF, z_eqF, z_b_0, z_b_1, ↓reduceIte, eq_self, not_true_eq_false, not_false_eq_true, and_true, true_and, and_false, false_and, Nat.add_zero, Nat.zero_add]
            rw [co, z_sq, r34, Option.bind_some, z_uj_s, if_neg nz]
          rw [hl, eR, eS]
        · refine ⟨X, q, ?_⟩
          have q1 : z_sum (i + 1) (u_os I t w s) = z_sum i (u_os I t w s) := by
            rw [z_sum_s, show u_os I t w s i = 0 from if_neg hwf, Nat.add_zero]
          simp (disch := omega) only [f_Mo_sisters_L56, z_ob (s_83 hS'), t1, h5, z_Mr hS' hP', v1, eL, iw, hwf, q1, or_true, true_or, or_false, false_or, z_b_T, z_b_F, Bool.false_eq_true, Classical.not_not, decide_eq_true_eq, z_sq, Option.bind_some, z_lits, z_n_add, z_n_mul, z_lt, z_le, z_eq, z_ne1, z_1ne, z_lt1, z_1lt, z_ltT, z_ltF, z_leT, z_leF, z_eqF, z_b_0, z_b_1, ↓reduceIte, eq_self, not_true_eq_false, not_false_eq_true, and_true, true_and, and_false, false_and, Nat.add_zero, Nat.zero_add])
      (by
        intro m X q
        have c1 : z_cg I J I1 X := c.trans q.cg
        have t1 := th X c1
        rw [z_th_c c1] at t1
        have v1 := c1.i 90 rfl s
        refine ⟨X, ?_, q⟩
        simp (disch := omega) only [f_Mo_sisters_L56, z_ob (s_83 hS'), t1, h5, z_Mr hS' hP', v1, eL, or_true, true_or, or_false, false_or, z_b_T, z_b_F, Bool.false_eq_true, Classical.not_not, decide_eq_true_eq, z_sq, Option.bind_some, z_lits, z_n_add, z_n_mul, z_lt, z_le, z_eq, z_ne1, z_1ne, z_lt1, z_1lt, z_ltT, z_ltF, z_leT, z_leF, z_eqF, z_b_0, z_b_1, ↓reduceIte, eq_self, not_true_eq_false, not_false_eq_true, and_true, true_and, and_false, false_and, Nat.add_zero, Nat.zero_add])
      (x := J1) m1
    obtain ⟨J2, e1, e2⟩ := key
    refine ⟨J2, ?_, e2⟩
    have e3 : u_ss (u_os I t w) I s = z_sum (z_ln I s) (u_os I t w s) := if_pos h5
    rw [e3]
    exact e1
  · refine ⟨J1, ?_, m1⟩
    have e3 : u_ss (u_os I t w) I s = 0 := if_neg h5
    have t1 := th J1 (c.trans m1.cg)
    rw [z_th_c (c.trans m1.cg)] at t1
    have fu : q_FU = 999999 + 1 := rfl
    rw [e3, fu, Nat.add_zero]
    generalize 999999 = N
    simp (disch := omega) only [f_Mo_sisters_L56, z_ob (s_83 hS'), t1, h5, or_true, true_or, or_false, false_or, z_b_T, z_b_F, Bool.false_eq_true, Classical.not_not, decide_eq_true_eq, z_sq, Option.bind_some, z_lits, z_n_add, z_n_mul, z_lt, z_le, z_eq, z_ne1, z_1ne, z_lt1, z_1lt, z_ltT, z_ltF, z_leT, z_leF, z_eqF, z_b_0, z_b_1, ↓reduceIte, eq_self, not_true_eq_false, not_false_eq_true, and_true, true_and, and_false, false_and, Nat.add_zero, Nat.zero_add]
set_option maxRecDepth 100000 in
set_option maxHeartbeats 4000000 in
theorem X_sisters (B : z_B S I J P K n.1) (t w d : Int32) : z_pr (f_Rs_sisters 8 t w d) (f_Mo_sisters 83 t w d) S I J P K n := by
  have hS := B.qS
  have hP := B.qP
  have hn := B.qn
  have m0 : z_mf I J (z_up I 83 0 (z_n 0)) J := z_mf.up rfl
  rcases z_in t 3 (by omega) with ⟨x, hx, rfl⟩ | ho
  · rcases z_in w 30 (by omega) with ⟨z, hz, rfl⟩ | hwo
    · rcases z_d1 (d := d) with hd | hd
      · have e8 : q_gr (q_gf (z_h S I J P n) 0 8 3) = some 13 := z_gr (s_8 hS) rfl (p_8_3 hP)
        have hc := z_run (fun m s => f_Rs_sisters_L39 8 (z_n x) (z_n z) d m (z_z (z_sum s (u_ss (u_os I x z) I) : Nat)) (z_z (z_sum s (u_ss (u_fu I J) I) : Nat)) (z_n s) (z_h S I J P n)) 24 (r := some ((z_z (z_sum 24 (u_ss (u_os I x z) I) : Nat), z_z (z_sum 24 (u_ss (u_fu I J) I) : Nat)), z_h S I J P n)) (by omega)
          (by
            intro m s hs
            have po := C_pageOf (n := n) (I := I) (J := J) hS hP hs
            rcases B.pg hs with ⟨h5, h6⟩ | ⟨h5, p, h6, h7⟩
            · have e1 : u_ss (u_os I x z) I s = 0 := if_neg (by rw [h5]; simp)
              have e2 : u_ss (u_fu I J) I s = 0 := if_neg (by rw [h5]; simp)
              have hl : ∀ a b, f_Rs_sisters_L60 8 (z_n x) (z_n z) d (z_n s) none q_FU a b (z_n 0) (z_h S I J P n) = some ((a, b), z_h S I J P n) := by
                intro a b
                rw [z_FU]; rfl
              simp (disch := omega) only [f_Rs_sisters_L39, e8, z_ob (s_13 hS), po, h6, hl, z_sum_s, e1, e2, or_true, true_or, or_false, false_or, z_b_T, z_b_F, Bool.false_eq_true, Classical.not_not, decide_eq_true_eq, z_sq, Option.bind_some, z_lits, z_n_add, z_n_mul, z_lt, z_le, z_eq, z_ne1, z_1ne, z_lt1, z_1lt, z_ltT, z_ltF, z_leT, z_leF, z_eqF, z_b_0, z_b_1, ↓reduceIte, eq_self, not_true_eq_false, not_false_eq_true, and_true, true_and, and_false, false_and, Nat.add_zero, Nat.zero_add]
            · have e1 : u_ss (u_os I x z) I s = z_sum (z_ln I s) (u_os I x z s) := if_pos h5
              have e2 : u_ss (u_fu I J) I s = z_sum (z_ln I s) (u_fu I J s) := if_pos h5
              have hl := fun a b => C_sistL (x := a) (y := b) (d := d) (v8 := z_n s) B hs (show x < 4 by omega) hz h5 h7
              simp (disch := omega) only [f_Rs_sisters_L39, e8, z_ob (s_13 hS), po, h6, hl, z_sum_s, e1, e2, or_true, true_or, or_false, false_or, z_b_T, z_b_F, Bool.false_eq_true, Classical.not_not, decide_eq_true_eq, z_sq, Option.bind_some, z_lits, z_n_add, z_n_mul, z_lt, z_le, z_eq, z_ne1, z_1ne, z_lt1, z_1lt, z_ltT, z_ltF, z_leT, z_leF, z_eqF, z_b_0, z_b_1, ↓reduceIte, eq_self, not_true_eq_false, not_false_eq_true, and_true, true_and, and_false, false_and, Nat.add_zero, Nat.zero_add])
          (by
            intro m
            simp (disch := omega) only [f_Rs_sisters_L39, or_true, true_or, or_false, false_or, z_b_T, z_b_F, Bool.false_eq_true, Classical.not_not, decide_eq_true_eq, z_sq, Option.bind_some, z_lits, z_n_add, z_n_mul, z_lt, z_le, z_eq, z_ne1, z_1ne, z_lt1, z_1lt, z_ltT, z_ltF, z_leT, z_leF, z_eqF, z_b_0, z_b_1, ↓reduceIte, eq_self, not_true_eq_false, not_false_eq_true, and_true, true_and, and_false, false_and, Nat.add_zero, Nat.zero_add])
        have hm := z_runI (fun m s (X : z_MJ) => f_Mo_sisters_L46 83 (z_n x) (z_n z) d (z_z 10000000000000000) m (z_z (z_sum s (u_ss (u_os I x z) I) : Nat)) (z_n s) (z_h S (z_up I 83 0 (z_n 0)) X P n)) 24
          (fun s X => z_mf (z_up I 83 0 (z_n 0)) J (z_up I 83 0 (z_n 0)) X) (fun r => ∃ X, r = some (z_z (z_sum 24 (u_ss (u_os I x z) I) : Nat), z_h S (z_up I 83 0 (z_n 0)) X P n) ∧ z_mf (z_up I 83 0 (z_n 0)) J (z_up I 83 0 (z_n 0)) X) (by omega)
          (by
            intro m s X hs q
            obtain ⟨J2, e1, e2⟩ := M_sistL (x := z_sum s (u_ss (u_os I x z) I)) (d := d) B hS hP (n' := n) m0.cg hs (show x < 4 by omega) hz q
            refine ⟨J2, e2, ?_⟩
            simp (disch := omega) only [f_Mo_sisters_L46, e1, z_sum_s, or_true, true_or, or_false, false_or, z_b_T, z_b_F, Bool.false_eq_true, Classical.not_not, decide_eq_true_eq, z_sq, Option.bind_some, z_lits, z_n_add, z_n_mul, z_lt, z_le, z_eq, z_ne1, z_1ne, z_lt1, z_1lt, z_ltT, z_ltF, z_leT, z_leF, z_eqF, z_b_0, z_b_1, ↓reduceIte, eq_self, not_true_eq_false, not_false_eq_true, and_true, true_and, and_false, false_and, Nat.add_zero, Nat.zero_add])
          (by
            intro m X q
            refine ⟨X, ?_, q⟩
            simp (disch := omega) only [f_Mo_sisters_L46, or_true, true_or, or_false, false_or, z_b_T, z_b_F, Bool.false_eq_true, Classical.not_not, decide_eq_true_eq, z_sq, Option.bind_some, z_lits, z_n_add, z_n_mul, z_lt, z_le, z_eq, z_ne1, z_1ne, z_lt1, z_1lt, z_ltT, z_ltF, z_leT, z_leF, z_eqF, z_b_0, z_b_1, ↓reduceIte, eq_self, not_true_eq_false, not_false_eq_true, and_true, true_and, and_false, false_and, Nat.add_zero, Nat.zero_add])
          (x := J) (z_mf.refl _ _)
        obtain ⟨X, e1, e2⟩ := hm
        have co := M_count B hS hP (m0.cg.trans e2.cg) (n' := n) (z_n 0) (z_n 0) (-z_n 1) (z_n 1) (z_n 2)
        have bc := z_co_le J B.qL (z_n 0) (z_n 0) (-z_n 1) (z_n 1) (z_n 2)
        have fs := u_fu_sum I J
        have z0 : ∀ f, z_z ((z_sum 0 f : Nat) : Int) = (0 : Int64) := fun _ => rfl
        have hc' := hc
        simp only [z0, fs] at hc'
        have t16 : z_z 10000000000000000 = (10000000000000000 : Int64) := rfl
        have e1' := e1
        simp only [z0, t16] at e1'
        generalize z_sum 24 (u_ss (u_os I x z) I) = A at *
        have h32 : (z_n (z_co I J (z_n 0) (z_n 0) (-z_n 1) (z_n 1) (z_n 2))).toInt64 = z_z (z_co I J (z_n 0) (z_n 0) (-z_n 1) (z_n 1) (z_n 2) : Nat) := z_cast (by omega)
        rcases hd with rfl | rfl
        · refine z_pr.same (r := z_z (A : Nat)) ?_ ?_ (m0.trans e2)
          · simp (disch := omega) only [f_Rs_sisters, C_isTable hx, C_in, or_true, true_or, or_false, false_or, z_b_T, z_b_F, Bool.false_eq_true, Classical.not_not, decide_eq_true_eq, z_sq, Option.bind_some, z_lits, z_n_add, z_n_mul, z_lt, z_le, z_eq, z_ne1, z_1ne, z_lt1, z_1lt, z_ltT, z_ltF, z_leT, z_leF, z_eqF, z_b_0, z_b_1, ↓reduceIte, eq_self, not_true_eq_false, not_false_eq_true, and_true, true_and, and_false, false_and, Nat.add_zero, Nat.zero_add]
            rw [hc', z_sq]
          · simp (disch := omega) only [f_Mo_sisters, M_thr hS, M_isTable hx, M_win, or_true, true_or, or_false, false_or, z_b_T, z_b_F, Bool.false_eq_true, Classical.not_not, decide_eq_true_eq, z_sq, Option.bind_some, z_lits, z_n_add, z_n_mul, z_lt, z_le, z_eq, z_ne1, z_1ne, z_lt1, z_1lt, z_ltT, z_ltF, z_leT, z_leF, z_eqF, z_b_0, z_b_1, ↓reduceIte, eq_self, not_true_eq_false, not_false_eq_true, and_true, true_and, and_false, false_and, Nat.add_zero, Nat.zero_add]
            rw [e1', z_sq, z_ob (s_83 hS), Option.bind_some, co, z_sq]
        · have mp : f_Mo_sisters 83 (z_n x) (z_n z) (z_n 1) (z_h S I J P n) = (if (0 : Int64) < z_z (z_co I J (z_n 0) (z_n 0) (-z_n 1) (z_n 1) (z_n 2) : Nat) * (10000000000000000 : Int64) - z_z (A : Nat) then some ((z_z (z_co I J (z_n 0) (z_n 0) (-z_n 1) (z_n 1) (z_n 2) : Nat) * (10000000000000000 : Int64) - z_z (A : Nat) + (10000000000000000 : Int64) - (1 : Int64)) / (10000000000000000 : Int64), z_h S (z_up I 83 0 (z_n 0)) X P n) else some ((0 : Int64), z_h S (z_up I 83 0 (z_n 0)) X P n)) := by
            simp (disch := omega) only [f_Mo_sisters, M_thr hS, M_isTable hx, M_win, or_true, true_or, or_false, false_or, z_b_T, z_b_F, Bool.false_eq_true, Classical.not_not, decide_eq_true_eq, z_sq, Option.bind_some, z_lits, z_n_add, z_n_mul, z_lt, z_le, z_eq, z_ne1, z_1ne, z_lt1, z_1lt, z_ltT, z_ltF, z_leT, z_leF, z_eqF, z_b_0, z_b_1, ↓reduceIte, eq_self, not_true_eq_false, not_false_eq_true, and_true, true_and, and_false, false_and, Nat.add_zero, Nat.zero_add]
            rw [e1', z_sq, z_ob (s_83 hS), Option.bind_some, co, z_sq, h32]
          have cp : f_Rs_sisters 8 (z_n x) (z_n z) (z_n 1) (z_h S I J P n) = (if (0 : Int64) < z_z (z_co I J (z_n 0) (z_n 0) (-z_n 1) (z_n 1) (z_n 2) : Nat) * (10000000000000000 : Int64) - z_z (A : Nat) then some ((z_z (z_co I J (z_n 0) (z_n 0) (-z_n 1) (z_n 1) (z_n 2) : Nat) * (10000000000000000 : Int64) - z_z (A : Nat) + (10000000000000000 : Int64) - (1 : Int64)) / (10000000000000000 : Int64), z_h S I J P n) else some ((0 : Int64), z_h S I J P n)) := by
            simp (disch := omega) only [f_Rs_sisters, C_isTable hx, C_in, or_true, true_or, or_false, false_or, z_b_T, z_b_F, Bool.false_eq_true, Classical.not_not, decide_eq_true_eq, z_sq, Option.bind_some, z_lits, z_n_add, z_n_mul, z_lt, z_le, z_eq, z_ne1, z_1ne, z_lt1, z_1lt, z_ltT, z_ltF, z_leT, z_leF, z_eqF, z_b_0, z_b_1, ↓reduceIte, eq_self, not_true_eq_false, not_false_eq_true, and_true, true_and, and_false, false_and, Nat.add_zero, Nat.zero_add]
            rw [hc', z_sq]
          generalize z_z (z_co I J (z_n 0) (z_n 0) (-z_n 1) (z_n 1) (z_n 2) : Nat) * (10000000000000000 : Int64) - z_z (A : Nat) = Q at *
          by_cases h0 : (0 : Int64) < Q
          · rw [if_pos h0] at mp cp
            exact z_pr.same cp mp (m0.trans e2)
          · rw [if_neg h0] at mp cp
            exact z_pr.same cp mp (m0.trans e2)
      · refine z_pr.same (r := -1) ?_ ?_ m0
        · simp (disch := omega) only [f_Rs_sisters, C_isTable hx, C_in, C_out hd, or_true, true_or, or_false, false_or, z_b_T, z_b_F, Bool.false_eq_true, Classical.not_not, decide_eq_true_eq, z_sq, Option.bind_some, z_lits, z_n_add, z_n_mul, z_lt, z_le, z_eq, z_ne1, z_1ne, z_lt1, z_1lt, z_ltT, z_ltF, z_leT, z_leF, z_eqF, z_b_0, z_b_1, ↓reduceIte, eq_self, not_true_eq_false, not_false_eq_true, and_true, true_and, and_false, false_and, Nat.add_zero, Nat.zero_add]
        · simp (disch := omega) only [f_Mo_sisters, M_thr hS, M_isTable hx, M_win, M_wout hd, or_true, true_or, or_false, false_or, z_b_T, z_b_F, Bool.false_eq_true, Classical.not_not, decide_eq_true_eq, z_sq, Option.bind_some, z_lits, z_n_add, z_n_mul, z_lt, z_le, z_eq, z_ne1, z_1ne, z_lt1, z_1lt, z_ltT, z_ltF, z_leT, z_leF, z_eqF, z_b_0, z_b_1, ↓reduceIte, eq_self, not_true_eq_false, not_false_eq_true, and_true, true_and, and_false, false_and, Nat.add_zero, Nat.zero_add]
    · refine z_pr.same (r := -1) ?_ ?_ m0
      · simp (disch := omega) only [f_Rs_sisters, C_isTable hx, C_in, C_out hwo, or_true, true_or, or_false, false_or, z_b_T, z_b_F, Bool.false_eq_true, Classical.not_not, decide_eq_true_eq, z_sq, Option.bind_some, z_lits, z_n_add, z_n_mul, z_lt, z_le, z_eq, z_ne1, z_1ne, z_lt1, z_1lt, z_ltT, z_ltF, z_leT, z_leF, z_eqF, z_b_0, z_b_1, ↓reduceIte, eq_self, not_true_eq_false, not_false_eq_true, and_true, true_and, and_false, false_and, Nat.add_zero, Nat.zero_add]
      · simp (disch := omega) only [f_Mo_sisters, M_thr hS, M_isTable hx, M_win, M_wout hwo, or_true, true_or, or_false, false_or, z_b_T, z_b_F, Bool.false_eq_true, Classical.not_not, decide_eq_true_eq, z_sq, Option.bind_some, z_lits, z_n_add, z_n_mul, z_lt, z_le, z_eq, z_ne1, z_1ne, z_lt1, z_1lt, z_ltT, z_ltF, z_leT, z_leF, z_eqF, z_b_0, z_b_1, ↓reduceIte, eq_self, not_true_eq_false, not_false_eq_true, and_true, true_and, and_false, false_and, Nat.add_zero, Nat.zero_add]
  · refine z_pr.same (r := -1) ?_ ?_ m0
    · simp (disch := omega) only [f_Rs_sisters, C_isTable_o ho, or_true, true_or, or_false, false_or, z_b_T, z_b_F, Bool.false_eq_true, Classical.not_not, decide_eq_true_eq, z_sq, Option.bind_some, z_lits, z_n_add, z_n_mul, z_lt, z_le, z_eq, z_ne1, z_1ne, z_lt1, z_1lt, z_ltT, z_ltF, z_leT, z_leF, z_eqF, z_b_0, z_b_1, ↓reduceIte, eq_self, not_true_eq_false, not_false_eq_true, and_true, true_and, and_false, false_and, Nat.add_zero, Nat.zero_add]
    · simp (disch := omega) only [f_Mo_sisters, M_thr hS, M_isTable_o ho, or_true, true_or, or_false, false_or, z_b_T, z_b_F, Bool.false_eq_true, Classical.not_not, decide_eq_true_eq, z_sq, Option.bind_some, z_lits, z_n_add, z_n_mul, z_lt, z_le, z_eq, z_ne1, z_1ne, z_lt1, z_1lt, z_ltT, z_ltF, z_leT, z_leF, z_eqF, z_b_0, z_b_1, ↓reduceIte, eq_self, not_true_eq_false, not_false_eq_true, and_true, true_and, and_false, false_and, Nat.add_zero, Nat.zero_add]
end
