/-! fit, best. -/
def u_ag (I : z_MI) (a : Nat) : Nat := (I 92 a).toNatClampNeg
/-- the group of an AGE -/
def u_gi (a : Nat) : Nat := if a < 80 then a / 5 else 16
def u_g1 (I : z_MI) (s k l : Nat) : Nat := if u_gi (u_ag I (12 * s + l)) = k then 1 else 0
def u_gs (I : z_MI) (k s : Nat) : Nat := if z_th I s = true then z_sum (z_ln I s) (u_g1 I s k) else 0
/-- LINES in a group -/
def u_gr (I : z_MI) (k : Nat) : Nat := z_sum 24 (u_gs I k)
theorem u_gr_c {I I' : z_MI} {J J' : z_MJ} (h : z_cg I J I' J') (k : Nat) : u_gr I' k = u_gr I k := z_sum_eq (fun s _ => by
  unfold u_gs
  rw [z_th_c h, z_ln_c h, z_sum_eq (fun l _ => show u_g1 I' s k l = u_g1 I s k l by unfold u_g1 u_ag; rw [h.i _ rfl])])
/-- a row of 17 -/
def u_row (c : Nat → Nat) (h : Nat → Int32) : Nat → Int32 := fun k => if k < 17 then z_n (c k) else h k
theorem u_row_up (I : z_MI) (a j : Nat) (c d : Nat → Nat) (h : Nat → Int32) (hj : j < 17) (e : ∀ k, d k = c k + if j = k then 1 else 0) : z_up (z_ri I a (u_row c h)) a j (z_n (c j + 1)) = z_ri I a (u_row d h) := by
  rw [z_up_ri]
  congr 1
  funext k
  unfold u_row
  by_cases hk : k = j
  · subst hk; rw [if_pos rfl, if_pos hj, e, if_pos rfl]
  · rw [if_neg hk]
    by_cases h17 : k < 17
    · rw [if_pos h17, if_pos h17, e, if_neg (fun q => hk q.symm), Nat.add_zero]
    · rw [if_neg h17, if_neg h17]
section
variable {S : z_SH} {I : z_MI} {J : z_MJ} {P : z_MP} {K : Nat → Bool} {n : Nat × Nat}
theorem z_B.ag (B : z_B S I J P K n.1) {s l : Nat} (hs : s < 24) (hl : l < z_ln I s) : I 92 (12 * s + l) = z_n (u_ag I (12 * s + l)) ∧ u_ag I (12 * s + l) ≤ 120 := by
  obtain ⟨-, ⟨a, h1, h2⟩, -⟩ := (B.qD hs).2.1 l hl
  have h1' : I 92 (12 * s + l) = z_n a := h1
  have : u_ag I (12 * s + l) = a := by unfold u_ag; rw [h1', z_n_nat (by omega)]
  rw [this]; exact ⟨h1', h2⟩
/-- counts so far: SHEETS ahead, lines of this one -/
def u_gc (I : z_MI) (s i k : Nat) : Nat := z_sum s (u_gs I k) + z_sum i (u_g1 I s k)
theorem u_gc_s (I : z_MI) (s i k : Nat) : u_gc I s (i + 1) k = u_gc I s i k + if u_gi (u_ag I (12 * s + i)) = k then 1 else 0 := by
  unfold u_gc
  rw [z_sum_s, ← Nat.add_assoc]; rfl
theorem u_gi_lt (a : Nat) : u_gi a < 17 := by unfold u_gi; split <;> omega
set_option maxRecDepth 100000 in
set_option maxHeartbeats 4000000 in
theorem C_group (B : z_B S I J P K n.1) : ∃ S' J' P', f_Rs_groupLines 8 (z_h S I J P n) = some (n.1, z_h S' (z_ri I n.1 (u_row (u_gr I) fun _ => z_n 0)) J' P' (n.1 + 1, n.2 + 17)) ∧ z_ag n.1 z_nil S I J P S' (z_ri I n.1 (u_row (u_gr I) fun _ => z_n 0)) J' P' ∧ S' n.1 = some (20, List.replicate 17 0) := by
  have hn := B.qn
  have hS := B.qS
  have hP := B.qP
  have g0 : ∀ f, z_ag n.1 z_nil S I J P (z_us S n.1 (20, List.replicate 17 0)) (z_ri I n.1 f) (z_rj J n.1 fun _ => 0) (z_rp P n.1 fun _ => none) := by
    intro f a ha
    exact ⟨⟨z_us_a (by omega), z_rp_a (by omega)⟩, fun _ => ⟨z_ri_a (by omega), z_rj_a (by omega)⟩⟩
  have hS' := hS.mono (g0 fun _ => z_n 0) hn
  have hP' := hP.mono (g0 fun _ => z_n 0) hn
  have s0 : (z_us S n.1 (20, List.replicate 17 0)) n.1 = some (20, List.replicate 17 0) := z_us_s _ _ _
  generalize hSe : z_us S n.1 (20, List.replicate 17 0) = S' at *
  generalize hJe : (z_rj J n.1 fun _ => 0) = J' at *
  generalize hPe : (z_rp P n.1 fun _ => none) = P' at *
  have rd : ∀ I J n' i, i < 17 → q_gi (q_ga (z_h S' I J P' n') 20 n.1 (z_n i)) = some (I n.1 i) := fun _ _ _ i hi => z_gia s0 (by omega) (z_rpl hi)
  have wr : ∀ I J n' i v, i < 17 → q_sa (z_h S' I J P' n') 20 n.1 (z_n i) (.int v) = some (z_h S' (z_up I n.1 i v) J P' n') := fun _ _ _ i _ hi => z_sai s0 (by omega) (by omega) (z_rpl hi)
  have e8 : ∀ I J n', q_gr (q_gf (z_h S' I J P' n') 0 8 3) = some 13 := fun _ _ _ => z_gr (s_8 hS') rfl (p_8_3 hP')
  have h := z_run (fun m s => f_Rs_groupLines_L7 8 n.1 m (z_n s) (z_h S' (z_ri I n.1 (u_row (fun k => z_sum s (u_gs I k)) fun _ => z_n 0)) J' P' (n.1 + 1, n.2 + 17))) 24 (r := some ((), z_h S' (z_ri I n.1 (u_row (u_gr I) fun _ => z_n 0)) J' P' (n.1 + 1, n.2 + 17))) (by omega)
    (by
      intro m s hs
      have B2 : z_B S' (z_ri I n.1 (u_row (fun k => z_sum s (u_gs I k)) fun _ => z_n 0)) J' P' K (n.1 + 1, n.2 + 17).1 := B.mono z_keep0 (g0 _) (by simp)
      have cg := (g0 (u_row (fun k => z_sum s (u_gs I k)) fun _ => z_n 0)).cg (K := K) z_keep0 B.2.2.1.2 hn
      have po := C_pageOf (n := (n.1 + 1, n.2 + 17)) (I := z_ri I n.1 (u_row (fun k => z_sum s (u_gs I k)) fun _ => z_n 0)) (J := J') hS' hP' hs
      have e18 : P' 18 s = P 18 s := by rw [(g0 (fun _ => z_n 0) 18 (by omega)).1.2]
      rw [e18] at po
      rcases B.pg hs with ⟨h5, h6⟩ | ⟨h5, p, h6, h7⟩
      · have hl : f_Rs_groupLines_L25 8 n.1 (z_n s) none q_FU (z_n 0) (z_h S' (z_ri I n.1 (u_row (fun k => z_sum s (u_gs I k)) fun _ => z_n 0)) J' P' (n.1 + 1, n.2 + 17)) = some ((), z_h S' (z_ri I n.1 (u_row (fun k => z_sum s (u_gs I k)) fun _ => z_n 0)) J' P' (n.1 + 1, n.2 + 17)) := by
          rw [z_FU]; rfl
        have e : (fun k => z_sum (s + 1) (u_gs I k)) = fun k => z_sum s (u_gs I k) := by
          funext k
          rw [z_sum_s]
          unfold u_gs
          rw [if_neg (by rw [h5]; simp), Nat.add_zero]
        simp (disch := omega) only [f_Rs_groupLines_L7, e8, z_ob (s_13 hS'), po, h6, hl, e, or_true, true_or, or_false, false_or, z_b_T, z_b_F, Bool.false_eq_true, Classical.not_not, decide_eq_true_eq, z_sq, Option.bind_some, z_lits, z_n_add, z_n_mul, z_lt, z_le, z_eq, z_ne1, z_1ne, z_lt1, z_1lt, z_ltT, z_ltF, z_leT, z_leF, z_eqF, z_b_0, z_b_1, ↓reduceIte, eq_self, not_true_eq_false, not_false_eq_true, and_true, true_and, and_false, false_and, Nat.add_zero, Nat.zero_add]
      · have h12 := (B.qL s (by omega)).2
        have h7' := h7.mono z_keep0 (g0 fun _ => z_n 0) (n' := n.1 + 1) (by omega)
        have r3 := z_ps_r h7'.2.1
        have hpn : p + 12 < n.1 := h7.1.2.1
        have hl := z_run (fun m i => f_Rs_groupLines_L25 8 n.1 (z_n s) (some p) m (z_n i) (z_h S' (z_ri I n.1 (u_row (u_gc I s i) fun _ => z_n 0)) J' P' (n.1 + 1, n.2 + 17))) (z_ln I s) (r := some ((), z_h S' (z_ri I n.1 (u_row (u_gc I s (z_ln I s)) fun _ => z_n 0)) J' P' (n.1 + 1, n.2 + 17))) (by omega)
          (by
            intro m i hi
            have ⟨ea, ea2⟩ := B.ag hs hi
            have a1 : I (p + 5) i = I 92 (12 * s + i) := h7.age hi
            have u := u_row_up I n.1 (u_gi (u_ag I (12 * s + i))) (u_gc I s i) (u_gc I s (i + 1)) (fun _ => z_n 0) (u_gi_lt _) (fun k => u_gc_s I s i k)
            have q1 : z_ri I n.1 (u_row (u_gc I s i) fun _ => z_n 0) p = I p := z_ri_a (by omega)
            have q2 : z_ri I n.1 (u_row (u_gc I s i) fun _ => z_n 0) (p + 5) = I (p + 5) := z_ri_a (by omega)
            have q3 : u_row (u_gc I s i) (fun _ => z_n 0) (u_gi (u_ag I (12 * s + i))) = z_n (u_gc I s i (u_gi (u_ag I (12 * s + i)))) := if_pos (u_gi_lt _)
            have q4 : (if 16 < u_ag I (12 * s + i) / 5 then z_n 16 else z_n (u_ag I (12 * s + i) / 5)) = z_n (u_gi (u_ag I (12 * s + i))) := by
              unfold u_gi
              by_cases h80 : u_ag I (12 * s + i) < 80
              · rw [if_pos h80, if_neg (by omega)]
              · rw [if_neg h80]
                by_cases h16 : 16 < u_ag I (12 * s + i) / 5
                · rw [if_pos h16]
                · rw [if_neg h16]; congr 1; omega
            have lt17 := u_gi_lt (u_ag I (12 * s + i))
            simp (disch := omega) only [f_Rs_groupLines_L25, r3, q1, q2, h7.size, a1, ea, z_div, q4, rd, wr, z_ri_s, q3, u, or_true, true_or, or_false, false_or, z_b_T, z_b_F, Bool.false_eq_true, Classical.not_not, decide_eq_true_eq, z_sq, Option.bind_some, z_lits, z_n_add, z_n_mul, z_lt, z_le, z_eq, z_ne1, z_1ne, z_lt1, z_1lt, z_ltT, z_ltF, z_leT, z_leF, z_eqF, z_b_0, z_b_1, ↓reduceIte, eq_self, not_true_eq_false, not_false_eq_true, and_true, true_and, and_false, false_and, Nat.add_zero, Nat.zero_add])
          (by
            intro m
            have q1 : z_ri I n.1 (u_row (u_gc I s (z_ln I s)) fun _ => z_n 0) p = I p := z_ri_a (by omega)
            simp (disch := omega) only [f_Rs_groupLines_L25, r3, q1, h7.size, or_true, true_or, or_false, false_or, z_b_T, z_b_F, Bool.false_eq_true, Classical.not_not, decide_eq_true_eq, z_sq, Option.bind_some, z_lits, z_n_add, z_n_mul, z_lt, z_le, z_eq, z_ne1, z_1ne, z_lt1, z_1lt, z_ltT, z_ltF, z_leT, z_leF, z_eqF, z_b_0, z_b_1, ↓reduceIte, eq_self, not_true_eq_false, not_false_eq_true, and_true, true_and, and_false, false_and, Nat.add_zero, Nat.zero_add])
        have g1 : u_gc I s 0 = fun k => z_sum s (u_gs I k) := by funext k; unfold u_gc; rw [z_sum_0, Nat.add_zero]
        have g2 : u_gc I s (z_ln I s) = fun k => z_sum (s + 1) (u_gs I k) := by
          funext k
          unfold u_gc
          rw [z_sum_s]
          congr 1
          exact (if_pos h5).symm
        rw [g1, g2] at hl
        simp (disch := omega) only [f_Rs_groupLines_L7, e8, z_ob (s_13 hS'), po, h6, hl, or_true, true_or, or_false, false_or, z_b_T, z_b_F, Bool.false_eq_true, Classical.not_not, decide_eq_true_eq, z_sq, Option.bind_some, z_lits, z_n_add, z_n_mul, z_lt, z_le, z_eq, z_ne1, z_1ne, z_lt1, z_1lt, z_ltT, z_ltF, z_leT, z_leF, z_eqF, z_b_0, z_b_1, ↓reduceIte, eq_self, not_true_eq_false, not_false_eq_true, and_true, true_and, and_false, false_and, Nat.add_zero, Nat.zero_add])
    (by
      intro m
      simp (disch := omega) only [f_Rs_groupLines_L7, or_true, true_or, or_false, false_or, z_b_T, z_b_F, Bool.false_eq_true, Classical.not_not, decide_eq_true_eq, z_sq, Option.bind_some, z_lits, z_n_add, z_n_mul, z_lt, z_le, z_eq, z_ne1, z_1ne, z_lt1, z_1lt, z_ltT, z_ltF, z_leT, z_leF, z_eqF, z_b_0, z_b_1, ↓reduceIte, eq_self, not_true_eq_false, not_false_eq_true, and_true, true_and, and_false, false_and, Nat.add_zero, Nat.zero_add]
      rfl)
  refine ⟨S', J', P', ?_, g0 _, s0⟩
  unfold f_Rs_groupLines q_ma
  rw [z_mki, hSe, hJe, hPe]
  have e0 : z_ri I n.1 (fun _ => z_n 0) = z_ri I n.1 (u_row (fun k => z_sum 0 (u_gs I k)) fun _ => z_n 0) := by
    congr 1
    funext k
    unfold u_row
    split <;> rfl
  show q_sq (f_Rs_groupLines_L7 8 n.1 q_FU (z_n 0) (z_h S' (z_ri I n.1 fun _ => z_n 0) J' P' (n.1 + 1, n.2 + 17))) (fun _ σ4 => some (n.1, σ4)) = _
  rw [e0, h, z_sq]
/-- how far a group's lines lie from its lives -/
def u_of (I : z_MI) (t a k : Nat) : Int := (u_gr I k : Int) * (u_sf a 17 (u_ng I t) : Int) - (u_ng I t k : Int) * (u_sf a 17 (u_gr I) : Int)
def u_fit (I : z_MI) (t a : Nat) : Nat := u_sf a 17 fun k => (u_of I t a k).natAbs
theorem u_gr_le (B : z_B S I J P K n.1) (k : Nat) : u_gr I k ≤ 288 := by
  refine z_sum_le _ 12 24 (fun s hs => ?_)
  unfold u_gs
  have := z_sum_le (u_g1 I s k) 1 (z_ln I s) (fun i _ => by unfold u_g1; split <;> omega)
  have := (B.qL s (by omega)).2
  split <;> omega
theorem u_sf_le {a N b : Nat} {f : Nat → Nat} (h : ∀ i, i < N → f i ≤ b) (hN : N ≤ 17) : u_sf a N f ≤ 17 * b := by
  unfold u_sf
  have h1 := z_sum_le (fun i => f (a + i)) b (N - a) (fun i hi => h (a + i) (by omega))
  have h2 : (N - a) * b ≤ 17 * b := Nat.mul_le_mul_right b (by omega)
  omega
theorem u_of_le (B : z_B S I J P K n.1) {t a k : Nat} (ht : t < 4) (hk : k < 17) : (u_of I t a k).natAbs ≤ 20000000 := by
  have b1 := u_gr_le B k
  have b2 := u_ng_le B ht hk
  have b3 : u_sf a 17 (u_ng I t) ≤ 17 * 2000 := u_sf_le (fun i hi => u_ng_le B ht hi) (by omega)
  have b4 : u_sf a 17 (u_gr I) ≤ 17 * 288 := u_sf_le (fun i _ => u_gr_le B i) (by omega)
  have m1 : u_gr I k * u_sf a 17 (u_ng I t) ≤ 288 * (17 * 2000) := Nat.mul_le_mul b1 b3
  have m2 : u_ng I t k * u_sf a 17 (u_gr I) ≤ 2000 * (17 * 288) := Nat.mul_le_mul b2 b4
  unfold u_of
  rw [← Int.natCast_mul, ← Int.natCast_mul]
  omega
-- the class's, with the groups in a row at g
set_option maxRecDepth 100000 in
set_option maxHeartbeats 4000000 in
theorem C_misfit (B : z_B S I J P K n.1) {I0 : z_MI} {J0 : z_MJ} (c0 : z_cg I0 J0 I J) {t a g : Nat} (ht : t < 4) (ha : a ≤ 16) (hg : S g = some (20, List.replicate 17 0)) (hv : ∀ k, k < 17 → I g k = z_n (u_gr I0 k)) : f_Li_misfit 27 (z_n t) (z_n a) g (z_h S I J P n) = some (z_z (u_fit I0 t a : Nat), z_h S I J P n) := by
  have hgr : ∀ k, u_gr I k = u_gr I0 k := fun k => u_gr_c c0 k
  have hng : ∀ t k, u_ng I t k = u_ng I0 t k := fun t k => u_ng_c c0 t k
  have hng' : u_ng I t = u_ng I0 t := funext (hng t)
  have rd : ∀ k, k < 17 → q_gi (q_ga (z_h S I J P n) 20 g (z_n k)) = some (z_n (u_gr I0 k)) := fun k hk => by rw [z_gia hg (by omega) (z_rpl hk), hv k hk]
  have h1 := z_run (fun m i => f_Li_misfit_L6 27 (z_n t) (z_n a) g m (z_z (z_sum i (fun i => u_gr I0 (a + i)) : Nat)) (z_n (a + i)) (z_h S I J P n)) (17 - a) (r := some (z_z (u_sf a 17 (u_gr I0) : Nat), z_h S I J P n)) (by omega)
    (by
      intro m i hi
      have hl := rd (a + i) (by omega)
      have hb := u_gr_le B (a + i)
      rw [hgr] at hb
      simp (disch := omega) only [f_Li_misfit_L6, hl, z_cast, z_z_add, z_sum_s, Int.natCast_add, Nat.add_assoc, or_true, true_or, or_false, false_or, z_b_T, z_b_F, Bool.false_eq_true, Classical.not_not, decide_eq_true_eq, z_sq, Option.bind_some, z_lits, z_n_add, z_n_mul, z_lt, z_le, z_eq, z_ne1, z_1ne, z_lt1, z_1lt, z_ltT, z_ltF, z_leT, z_leF, z_eqF, z_b_0, z_b_1, ↓reduceIte, eq_self, not_true_eq_false, not_false_eq_true, and_true, true_and, and_false, false_and, Nat.add_zero, Nat.zero_add])
    (by
      intro m
      simp (disch := omega) only [f_Li_misfit_L6, or_true, true_or, or_false, false_or, z_b_T, z_b_F, Bool.false_eq_true, Classical.not_not, decide_eq_true_eq, z_sq, Option.bind_some, z_lits, z_n_add, z_n_mul, z_lt, z_le, z_eq, z_ne1, z_1ne, z_lt1, z_1lt, z_ltT, z_ltF, z_leT, z_leF, z_eqF, z_b_0, z_b_1, ↓reduceIte, eq_self, not_true_eq_false, not_false_eq_true, and_true, true_and, and_false, false_and, Nat.add_zero, Nat.zero_add]
      rfl)
  have h2 := C_between (n := n) B (t := t) (a := a) (N := 17) ht (by omega) (by omega)
  rw [hng'] at h2
  have h3 := z_run (fun m i => f_Li_misfit_L45 27 (z_n t) g (z_z (u_sf a 17 (u_gr I0) : Nat)) (z_z (u_sf a 17 (u_ng I0 t) : Nat)) m (z_z (z_sum i (fun i => (u_of I0 t a (a + i)).natAbs) : Nat)) (z_n (a + i)) (z_h S I J P n)) (17 - a) (r := some (z_z (u_fit I0 t a : Nat), z_h S I J P n)) (by omega)
    (by
      intro m i hi
      have hl := rd (a + i) (by omega)
      have hk := C_living B ht (show a + i < 17 by omega)
      rw [hng] at hk
      have hb := u_gr_le B (a + i)
      rw [hgr] at hb
      have hb2 := u_ng_le B ht (show a + i < 17 by omega)
      rw [hng] at hb2
      have ho := u_of_le B (a := a) ht (show a + i < 17 by omega)
      have eo : u_of I t a (a + i) = u_of I0 t a (a + i) := by
        unfold u_of
        rw [hgr, hng, hng', show u_gr I = u_gr I0 from funext hgr]
      rw [eo] at ho
      have e1 : z_z (u_gr I0 (a + i) : Nat) * z_z (u_sf a 17 (u_ng I0 t) : Nat) - z_z (u_ng I0 t (a + i) : Nat) * z_z (u_sf a 17 (u_gr I0) : Nat) = z_z (u_of I0 t a (a + i)) := by
        rw [z_z_mul, z_z_mul, z_z_sub]; rfl
      have e2 := z_abs (A := u_of I0 t a (a + i)) (by omega)
      simp (disch := omega) only [f_Li_misfit_L45, C_lives B.qS B.qP, hl, hk, z_cast, e1, e2, z_z_add, z_sum_s, Int.natCast_add, Nat.add_assoc, or_true, true_or, or_false, false_or, z_b_T, z_b_F, Bool.false_eq_true, Classical.not_not, decide_eq_true_eq, z_sq, Option.bind_some, z_lits, z_n_add, z_n_mul, z_lt, z_le, z_eq, z_ne1, z_1ne, z_lt1, z_1lt, z_ltT, z_ltF, z_leT, z_leF, z_eqF, z_b_0, z_b_1, ↓reduceIte, eq_self, not_true_eq_false, not_false_eq_true, and_true, true_and, and_false, false_and, Nat.add_zero, Nat.zero_add])
    (by
      intro m
      simp (disch := omega) only [f_Li_misfit_L45, or_true, true_or, or_false, false_or, z_b_T, z_b_F, Bool.false_eq_true, Classical.not_not, decide_eq_true_eq, z_sq, Option.bind_some, z_lits, z_n_add, z_n_mul, z_lt, z_le, z_eq, z_ne1, z_1ne, z_lt1, z_1lt, z_ltT, z_ltF, z_leT, z_leF, z_eqF, z_b_0, z_b_1, ↓reduceIte, eq_self, not_true_eq_false, not_false_eq_true, and_true, true_and, and_false, false_and, Nat.add_zero, Nat.zero_add]
      rfl)
  simp only [z_sum_0, Nat.add_zero] at h1 h3
  unfold f_Li_misfit
  show q_sq (f_Li_misfit_L6 27 (z_n t) (z_n a) g q_FU (z_z ((0 : Nat) : Int)) (z_n a) (z_h S I J P n)) _ = _
  rw [h1, z_sq, (C_lives B.qS B.qP).2, Option.bind_some]
  show q_sq (f_Li_livingBetween 27 (z_n t) (z_n a) (z_n 17) (z_h S I J P n)) _ = _
  rw [h2, z_sq]
  show q_sq (f_Li_misfit_L45 27 (z_n t) g (z_z (u_sf a 17 (u_gr I0) : Nat)) (z_z (u_sf a 17 (u_ng I0 t) : Nat)) q_FU (z_z ((0 : Nat) : Int)) (z_n a) (z_h S I J P n)) _ = _
  rw [h3, z_sq]
end
