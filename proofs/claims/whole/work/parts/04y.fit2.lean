/-! fit, best: the reference's, and the pairs. -/
theorem z_pr.mk' {T : Type} {fc fm : q_H → Option (T × q_H)} {S S' : z_SH} {I I' I2 : z_MI} {J J' J2 : z_MJ} {P P' : z_MP} {K : Nat → Bool} {n n' : Nat × Nat} {r : T} (g : z_ag n.1 (z_x0 K) S I J P S' I' J' P') (b : n.1 ≤ n'.1 ∧ n'.1 ≤ n.1 + 60 ∧ n'.2 ≤ n.2 + 3000) (m : z_mf I' J' I2 J2) (h1 : fc (z_h S I J P n) = some (r, z_h S' I' J' P' n')) (h2 : fm (z_h S' I' J' P' n') = some (r, z_h S' I2 J2 P' n')) : z_pr fc fm S I J P K n := ⟨r, S', I', J', P', n', I2, J2, h1, h2, g, b, m⟩
section
variable {S : z_SH} {I : z_MI} {J : z_MJ} {P : z_MP} {K : Nat → Bool} {n : Nat × Nat}
/-- the reference's rows but for its groups -/
def u_gx (I0 : z_MI) (h : Nat → Int32) (c : Nat → Nat) : z_MI := z_ri I0 102 (u_row c h)
theorem u_gx_cg (I0 : z_MI) (J : z_MJ) (h : Nat → Int32) (c : Nat → Nat) : z_cg I0 J (u_gx I0 h c) J := z_cg.ri ⟨rfl, by decide⟩
theorem u_gx_eq (I0 : z_MI) (c : Nat → Nat) (h h' : Nat → Int32) (e : ∀ k, 17 ≤ k → h k = h' k) : u_gx I0 h c = u_gx I0 h' c := by
  unfold u_gx
  congr 1
  funext k
  unfold u_row
  by_cases hk : k < 17
  · rw [if_pos hk, if_pos hk]
  · rw [if_neg hk, if_neg hk]; exact e k (by omega)
set_option maxRecDepth 100000 in
set_option maxHeartbeats 4000000 in
theorem M_fitOf (B : z_B S I J P K n.1) {S' : z_SH} {I1 : z_MI} {J1 : z_MJ} {P' : z_MP} {n' : Nat × Nat} (hS' : z_St S') (hP' : z_Pt P') (c : z_cg I J I1 J1) {t a : Nat} (ht : t < 4) (ha : a ≤ 16) : f_Mo_fitOf 83 (z_n t) (z_n a) (z_h S' I1 J1 P' n') = some (z_z (u_fit I t a : Nat), z_h S' (u_gx I1 (I1 102) (u_gr I)) J1 P' n') := by
  have cx : ∀ f, z_cg I J (u_gx I1 (I1 102) f) J1 := fun f => c.trans (u_gx_cg _ _ _ _)
  -- noughts
  have h0 := z_run (fun m i => f_Mo_fitOf_L2 83 (z_n t) (z_n a) m (z_n i) (z_h S' (z_ri I1 102 (z_it (fun _ => z_n 0) (I1 102) i)) J1 P' n')) 17 (r := some ((), z_h S' (z_ri I1 102 (z_it (fun _ => z_n 0) (I1 102) 17)) J1 P' n')) (by omega)
    (by
      intro m i hi
      have u := z_up_it I1 102 i (fun _ => z_n 0) (I1 102)
      simp (disch := omega) only [f_Mo_fitOf_L2, z_Mr hS' hP', z_Mw hS', u, or_true, true_or, or_false, false_or, z_b_T, z_b_F, Bool.false_eq_true, Classical.not_not, decide_eq_true_eq, z_sq, Option.bind_some, z_lits, z_n_add, z_n_mul, z_lt, z_le, z_eq, z_ne1, z_1ne, z_lt1, z_1lt, z_ltT, z_ltF, z_leT, z_leF, z_eqF, z_b_0, z_b_1, ↓reduceIte, eq_self, not_true_eq_false, not_false_eq_true, and_true, true_and, and_false, false_and, Nat.add_zero, Nat.zero_add])
    (by
      intro m
      simp (disch := omega) only [f_Mo_fitOf_L2, or_true, true_or, or_false, false_or, z_b_T, z_b_F, Bool.false_eq_true, Classical.not_not, decide_eq_true_eq, z_sq, Option.bind_some, z_lits, z_n_add, z_n_mul, z_lt, z_le, z_eq, z_ne1, z_1ne, z_lt1, z_1lt, z_ltT, z_ltF, z_leT, z_leF, z_eqF, z_b_0, z_b_1, ↓reduceIte, eq_self, not_true_eq_false, not_false_eq_true, and_true, true_and, and_false, false_and, Nat.add_zero, Nat.zero_add])
  rw [z_it_0] at h0
  have e0 : z_ri I1 102 (z_it (fun _ => z_n 0) (I1 102) 17) = u_gx I1 (I1 102) (fun k => z_sum 0 (u_gs I k)) := rfl
  rw [e0] at h0
  -- lines
  have h1 := z_run (fun m s => f_Mo_fitOf_L23 83 (z_n t) (z_n a) m (z_n s) (z_h S' (u_gx I1 (I1 102) (fun k => z_sum s (u_gs I k))) J1 P' n')) 24 (r := some ((), z_h S' (u_gx I1 (I1 102) (u_gr I)) J1 P' n')) (by omega)
    (by
      intro m s hs
      have hl : f_Mo_fitOf_L35 83 (z_n t) (z_n a) (z_n s) q_FU (z_n (12 * s)) (z_h S' (u_gx I1 (I1 102) (fun k => z_sum s (u_gs I k))) J1 P' n') = some ((), z_h S' (u_gx I1 (I1 102) (fun k => z_sum (s + 1) (u_gs I k))) J1 P' n') := by
        have th := fun f => M_isThere (n := n') (I := u_gx I1 (I1 102) f) (J := J1) hS' hP' hs
        simp only [fun f => z_th_c (cx f) s] at th
        by_cases h5 : z_th I s = true
        · have h12 := (B.qL s (by omega)).2
          have q := z_run (fun m i => f_Mo_fitOf_L35 83 (z_n t) (z_n a) (z_n s) m (z_n (12 * s + i)) (z_h S' (u_gx I1 (I1 102) (u_gc I s i)) J1 P' n')) (z_ln I s) (r := some ((), z_h S' (u_gx I1 (I1 102) (u_gc I s (z_ln I s))) J1 P' n')) (by omega)
            (by
              intro m i hi
              have ⟨ea, ea2⟩ := B.ag hs hi
              have eL := (B.qL s (by omega)).1
              have u := u_row_up I1 102 (u_gi (u_ag I (12 * s + i))) (u_gc I s i) (u_gc I s (i + 1)) (I1 102) (u_gi_lt _) (fun k => u_gc_s I s i k)
              have v1 := (cx (u_gc I s i)).i 90 rfl s
              have v2 := (cx (u_gc I s i)).i 92 rfl (12 * s + i)
              have q3 : u_gx I1 (I1 102) (u_gc I s i) 102 (u_gi (u_ag I (12 * s + i))) = z_n (u_gc I s i (u_gi (u_ag I (12 * s + i)))) := by
                unfold u_gx
                rw [z_ri_s]; exact if_pos (u_gi_lt _)
              have lt17 := u_gi_lt (u_ag I (12 * s + i))
              have u' : z_up (u_gx I1 (I1 102) (u_gc I s i)) 102 (u_gi (u_ag I (12 * s + i))) (z_n (u_gc I s i (u_gi (u_ag I (12 * s + i))) + 1)) = u_gx I1 (I1 102) (u_gc I s (i + 1)) := u
              by_cases h80 : u_ag I (12 * s + i) < 80
              · have e : u_gi (u_ag I (12 * s + i)) = u_ag I (12 * s + i) / 5 := if_pos h80
                rw [e] at q3 u'
                simp (disch := omega) only [f_Mo_fitOf_L35, z_ob (s_83 hS'), th, h5, z_Mr hS' hP', v1, eL, v2, ea, h80, z_div, q3, z_Mw hS', u', Nat.add_assoc, or_true, true_or, or_false, false_or, z_b_T, z_b_F, Bool.false_eq_true, Classical.not_not, decide_eq_true_eq, z_sq, Option.bind_some, z_lits, z_n_add, z_n_mul, z_lt, z_le, z_eq, z_ne1, z_1ne, z_lt1, z_1lt, z_ltT, z_ltF, z_leT, z_leF, z_eqF, z_b_0, z_b_1, ↓reduceIte, eq_self, not_true_eq_false, not_false_eq_true, and_true, true_and, and_false, false_and, Nat.add_zero, Nat.zero_add]
              · have e : u_gi (u_ag I (12 * s + i)) = 16 := if_neg h80
                rw [e] at q3 u'
                simp (disch := omega) only [f_Mo_fitOf_L35, z_ob (s_83 hS'), th, h5, z_Mr hS' hP', v1, eL, v2, ea, h80, z_div, q3, z_Mw hS', u', Nat.add_assoc, or_true, true_or, or_false, false_or, z_b_T, z_b_F, Bool.false_eq_true, Classical.not_not, decide_eq_true_eq, z_sq, Option.bind_some, z_lits, z_n_add, z_n_mul, z_lt, z_le, z_eq, z_ne1, z_1ne, z_lt1, z_1lt, z_ltT, z_ltF, z_leT, z_leF, z_eqF, z_b_0, z_b_1, ↓reduceIte, eq_self, not_true_eq_false, not_false_eq_true, and_true, true_and, and_false, false_and, Nat.add_zero, Nat.zero_add])
            (by
              intro m
              have eL := (B.qL s (by omega)).1
              have v1 := (cx (u_gc I s (z_ln I s))).i 90 rfl s
              simp (disch := omega) only [f_Mo_fitOf_L35, z_ob (s_83 hS'), th, h5, z_Mr hS' hP', v1, eL, or_true, true_or, or_false, false_or, z_b_T, z_b_F, Bool.false_eq_true, Classical.not_not, decide_eq_true_eq, z_sq, Option.bind_some, z_lits, z_n_add, z_n_mul, z_lt, z_le, z_eq, z_ne1, z_1ne, z_lt1, z_1lt, z_ltT, z_ltF, z_leT, z_leF, z_eqF, z_b_0, z_b_1, ↓reduceIte, eq_self, not_true_eq_false, not_false_eq_true, and_true, true_and, and_false, false_and, Nat.add_zero, Nat.zero_add])
          have g1 : u_gc I s 0 = fun k => z_sum s (u_gs I k) := by funext k; unfold u_gc; rw [z_sum_0, Nat.add_zero]
          have g2 : u_gc I s (z_ln I s) = fun k => z_sum (s + 1) (u_gs I k) := by
            funext k
            unfold u_gc
            rw [z_sum_s]
            congr 1
            exact (if_pos h5).symm
          simp only [g1, g2, Nat.add_zero] at q
          exact q
        · have e : (fun k => z_sum (s + 1) (u_gs I k)) = fun k => z_sum s (u_gs I k) := by
            funext k
            rw [z_sum_s]
            unfold u_gs
            rw [if_neg h5, Nat.add_zero]
          have fu : q_FU = 999999 + 1 := rfl
          rw [e, fu]
          generalize 999999 = N
          simp (disch := omega) only [f_Mo_fitOf_L35, z_ob (s_83 hS'), th, h5, or_true, true_or, or_false, false_or, z_b_T, z_b_F, Bool.false_eq_true, Classical.not_not, decide_eq_true_eq, z_sq, Option.bind_some, z_lits, z_n_add, z_n_mul, z_lt, z_le, z_eq, z_ne1, z_1ne, z_lt1, z_1lt, z_ltT, z_ltF, z_leT, z_leF, z_eqF, z_b_0, z_b_1, ↓reduceIte, eq_self, not_true_eq_false, not_false_eq_true, and_true, true_and, and_false, false_and, Nat.add_zero, Nat.zero_add]
      simp (disch := omega) only [f_Mo_fitOf_L23, hl, or_true, true_or, or_false, false_or, z_b_T, z_b_F, Bool.false_eq_true, Classical.not_not, decide_eq_true_eq, z_sq, Option.bind_some, z_lits, z_n_add, z_n_mul, z_lt, z_le, z_eq, z_ne1, z_1ne, z_lt1, z_1lt, z_ltT, z_ltF, z_leT, z_leF, z_eqF, z_b_0, z_b_1, ↓reduceIte, eq_self, not_true_eq_false, not_false_eq_true, and_true, true_and, and_false, false_and, Nat.add_zero, Nat.zero_add])
    (by
      intro m
      simp (disch := omega) only [f_Mo_fitOf_L23, or_true, true_or, or_false, false_or, z_b_T, z_b_F, Bool.false_eq_true, Classical.not_not, decide_eq_true_eq, z_sq, Option.bind_some, z_lits, z_n_add, z_n_mul, z_lt, z_le, z_eq, z_ne1, z_1ne, z_lt1, z_1lt, z_ltT, z_ltF, z_leT, z_leF, z_eqF, z_b_0, z_b_1, ↓reduceIte, eq_self, not_true_eq_false, not_false_eq_true, and_true, true_and, and_false, false_and, Nat.add_zero, Nat.zero_add]
      rfl)
  -- sums
  have c2 := cx (u_gr I)
  have rd : ∀ k, k < 17 → u_gx I1 (I1 102) (u_gr I) 102 k = z_n (u_gr I k) := by
    intro k hk
    unfold u_gx
    rw [z_ri_s]; exact if_pos hk
  have h2 := z_run (fun m i => f_Mo_fitOf_L114 83 (z_n t) (z_n a) m (z_z (z_sum i (fun i => u_gr I (a + i)) : Nat)) (z_z (z_sum i (fun i => u_ng I t (a + i)) : Nat)) (z_n (a + i)) (z_h S' (u_gx I1 (I1 102) (u_gr I)) J1 P' n')) (17 - a) (r := some ((z_z (u_sf a 17 (u_gr I) : Nat), z_z (u_sf a 17 (u_ng I t) : Nat)), z_h S' (u_gx I1 (I1 102) (u_gr I)) J1 P' n')) (by omega)
    (by
      intro m i hi
      have hr := rd (a + i) (by omega)
      have hk := M_living B hS' hP' c2 (n' := n') ht (show a + i < 17 by omega)
      have hb := u_gr_le B (a + i)
      have hb2 := u_ng_le B ht (show a + i < 17 by omega)
      simp (disch := omega) only [f_Mo_fitOf_L114, z_Mr hS' hP', hr, hk, z_cast, z_z_add, z_sum_s, Int.natCast_add, Nat.add_assoc, or_true, true_or, or_false, false_or, z_b_T, z_b_F, Bool.false_eq_true, Classical.not_not, decide_eq_true_eq, z_sq, Option.bind_some, z_lits, z_n_add, z_n_mul, z_lt, z_le, z_eq, z_ne1, z_1ne, z_lt1, z_1lt, z_ltT, z_ltF, z_leT, z_leF, z_eqF, z_b_0, z_b_1, ↓reduceIte, eq_self, not_true_eq_false, not_false_eq_true, and_true, true_and, and_false, false_and, Nat.add_zero, Nat.zero_add])
    (by
      intro m
      simp (disch := omega) only [f_Mo_fitOf_L114, or_true, true_or, or_false, false_or, z_b_T, z_b_F, Bool.false_eq_true, Classical.not_not, decide_eq_true_eq, z_sq, Option.bind_some, z_lits, z_n_add, z_n_mul, z_lt, z_le, z_eq, z_ne1, z_1ne, z_lt1, z_1lt, z_ltT, z_ltF, z_leT, z_leF, z_eqF, z_b_0, z_b_1, ↓reduceIte, eq_self, not_true_eq_false, not_false_eq_true, and_true, true_and, and_false, false_and, Nat.add_zero, Nat.zero_add]
      rfl)
  have h3 := z_run (fun m i => f_Mo_fitOf_L157 83 (z_n t) (z_z (u_sf a 17 (u_gr I) : Nat)) (z_z (u_sf a 17 (u_ng I t) : Nat)) m (z_z (z_sum i (fun i => (u_of I t a (a + i)).natAbs) : Nat)) (z_n (a + i)) (z_h S' (u_gx I1 (I1 102) (u_gr I)) J1 P' n')) (17 - a) (r := some (z_z (u_fit I t a : Nat), z_h S' (u_gx I1 (I1 102) (u_gr I)) J1 P' n')) (by omega)
    (by
      intro m i hi
      have hr := rd (a + i) (by omega)
      have hk := M_living B hS' hP' c2 (n' := n') ht (show a + i < 17 by omega)
      have hb := u_gr_le B (a + i)
      have hb2 := u_ng_le B ht (show a + i < 17 by omega)
      have ho := u_of_le B (a := a) ht (show a + i < 17 by omega)
      have e1 : z_z (u_gr I (a + i) : Nat) * z_z (u_sf a 17 (u_ng I t) : Nat) - z_z (u_ng I t (a + i) : Nat) * z_z (u_sf a 17 (u_gr I) : Nat) = z_z (u_of I t a (a + i)) := by
        rw [z_z_mul, z_z_mul, z_z_sub]; rfl
      have k := z_z_lt (a := u_of I t a (a + i)) (b := 0) (by omega) (by omega) (by omega) (by omega)
      by_cases hn : u_of I t a (a + i) < 0
      · have en : -u_of I t a (a + i) = ((u_of I t a (a + i)).natAbs : Int) := by omega
        simp (disch := omega) only [f_Mo_fitOf_L157, z_ob (s_83 hS'), z_Mr hS' hP', hr, hk, z_cast, e1, z_z0, k, hn, z_z_neg, en, z_z_add, z_sum_s, Int.natCast_add, Nat.add_assoc, or_true, true_or, or_false, false_or, z_b_T, z_b_F, Bool.false_eq_true, Classical.not_not, decide_eq_true_eq, z_sq, Option.bind_some, z_lits, z_n_add, z_n_mul, z_lt, z_le, z_eq, z_ne1, z_1ne, z_lt1, z_1lt, z_ltT, z_ltF, z_leT, z_leF, z_eqF, z_b_0, z_b_1, ↓reduceIte, eq_self, not_true_eq_false, not_false_eq_true, and_true, true_and, and_false, false_and, Nat.add_zero, Nat.zero_add]
      · have en : z_z (u_of I t a (a + i)) = z_z ((u_of I t a (a + i)).natAbs : Nat) := by congr 1; omega
        have k2 : (z_z (u_of I t a (a + i)) < z_z 0) = False := by rw [k]; exact eq_false hn
        simp (disch := omega) only [f_Mo_fitOf_L157, z_ob (s_83 hS'), z_Mr hS' hP', hr, hk, z_cast, e1, z_z0, k2, z_sum_s, Nat.add_assoc, or_true, true_or, or_false, false_or, z_b_T, z_b_F, Bool.false_eq_true, Classical.not_not, decide_eq_true_eq, z_sq, Option.bind_some, z_lits, z_n_add, z_n_mul, z_lt, z_le, z_eq, z_ne1, z_1ne, z_lt1, z_1lt, z_ltT, z_ltF, z_leT, z_leF, z_eqF, z_b_0, z_b_1, ↓reduceIte, eq_self, not_true_eq_false, not_false_eq_true, and_true, true_and, and_false, false_and, Nat.add_zero, Nat.zero_add]
        rw [en, z_z_add]; rfl)
    (by
      intro m
      simp (disch := omega) only [f_Mo_fitOf_L157, or_true, true_or, or_false, false_or, z_b_T, z_b_F, Bool.false_eq_true, Classical.not_not, decide_eq_true_eq, z_sq, Option.bind_some, z_lits, z_n_add, z_n_mul, z_lt, z_le, z_eq, z_ne1, z_1ne, z_lt1, z_1lt, z_ltT, z_ltF, z_leT, z_leF, z_eqF, z_b_0, z_b_1, ↓reduceIte, eq_self, not_true_eq_false, not_false_eq_true, and_true, true_and, and_false, false_and, Nat.add_zero, Nat.zero_add]
      rfl)
  simp only [z_sum_0, Nat.add_zero] at h2 h3
  unfold f_Mo_fitOf
  show q_sq (f_Mo_fitOf_L2 83 (z_n t) (z_n a) q_FU (z_n 0) _) _ = _
  rw [h0, z_sq]
  show q_sq (f_Mo_fitOf_L23 83 (z_n t) (z_n a) q_FU (z_n 0) _) _ = _
  rw [h1, z_sq]
  show q_sq (f_Mo_fitOf_L114 83 (z_n t) (z_n a) q_FU (z_z ((0 : Nat) : Int)) (z_z ((0 : Nat) : Int)) (z_n a) _) _ = _
  rw [h2, z_sq]
  show q_sq (f_Mo_fitOf_L157 83 (z_n t) (z_z (u_sf a 17 (u_gr I) : Nat)) (z_z (u_sf a 17 (u_ng I t) : Nat)) q_FU (z_z ((0 : Nat) : Int)) (z_n a) _) _ = _
  rw [h3, z_sq]
theorem u_gx_mf (I0 : z_MI) (J : z_MJ) (h : Nat → Int32) (c : Nat → Nat) : z_mf I0 J (u_gx I0 h c) J := z_mf.ri rfl (by decide)
set_option maxRecDepth 100000 in
set_option maxHeartbeats 4000000 in
theorem X_fit (B : z_B S I J P K n.1) (t a : Int32) : z_pr (f_Rs_fit 8 t a) (f_Mo_fit 83 t a) S I J P K n := by
  have hS := B.qS
  have hP := B.qP
  have hn := B.qn
  have m : z_mf I J (z_up I 83 0 (z_n 0)) J := z_mf.up rfl
  rcases z_in t 3 (by omega) with ⟨x, hx, rfl⟩ | ho
  · rcases z_in a 16 (by omega) with ⟨y, hy, rfl⟩ | hao
    · obtain ⟨S', J', P', h1, h2, h3⟩ := C_group B
      have B2 : z_B S' (z_ri I n.1 (u_row (u_gr I) fun _ => z_n 0)) J' P' K (n.1 + 1, n.2 + 17).1 := B.mono z_keep0 h2 (by simp)
      have cg := h2.cg (K := K) z_keep0 B.2.2.1.2 hn
      have ms := C_misfit (n := (n.1 + 1, n.2 + 17)) B2 cg (t := x) (a := y) (by omega) hy h3 (fun k hk => by rw [z_ri_s]; exact if_pos hk)
      generalize hI2 : (z_ri I n.1 (u_row (u_gr I) fun _ => z_n 0)) = I2 at *
      have m' : z_mf I2 J' (z_up I2 83 0 (z_n 0)) J' := z_mf.up rfl
      have mf := M_fitOf B B2.qS B2.qP (cg.trans m'.cg) (n' := (n.1 + 1, n.2 + 17)) (t := x) (a := y) (by omega) hy
      refine z_pr.mk' (r := z_z (u_fit I x y : Nat)) (n' := (n.1 + 1, n.2 + 17)) h2.x0 ⟨by simp, by simp, by simp⟩ (m'.trans (u_gx_mf (z_up I2 83 0 (z_n 0)) J' (z_up I2 83 0 (z_n 0) 102) (u_gr I))) ?_ ?_
      · simp (disch := omega) only [f_Rs_fit, C_isTable hx, C_in, C_lives hS hP, C_lives B2.qS B2.qP, C_gat8 hS, h1, ms, or_true, true_or, or_false, false_or, z_b_T, z_b_F, Bool.false_eq_true, Classical.not_not, decide_eq_true_eq, z_sq, Option.bind_some, z_lits, z_n_add, z_n_mul, z_lt, z_le, z_eq, z_ne1, z_1ne, z_lt1, z_1lt, z_ltT, z_ltF, z_leT, z_leF, z_eqF, z_b_0, z_b_1, ↓reduceIte, eq_self, not_true_eq_false, not_false_eq_true, and_true, true_and, and_false, false_and, Nat.add_zero, Nat.zero_add]
      · simp (disch := omega) only [f_Mo_fit, M_thr B2.qS, M_isTable hx, M_win, z_ob (s_83 B2.qS), mf, or_true, true_or, or_false, false_or, z_b_T, z_b_F, Bool.false_eq_true, Classical.not_not, decide_eq_true_eq, z_sq, Option.bind_some, z_lits, z_n_add, z_n_mul, z_lt, z_le, z_eq, z_ne1, z_1ne, z_lt1, z_1lt, z_ltT, z_ltF, z_leT, z_leF, z_eqF, z_b_0, z_b_1, ↓reduceIte, eq_self, not_true_eq_false, not_false_eq_true, and_true, true_and, and_false, false_and, Nat.add_zero, Nat.zero_add]
    · refine z_pr.same (r := -1) ?_ ?_ m
      · simp (disch := omega) only [f_Rs_fit, C_isTable hx, C_out hao, or_true, true_or, or_false, false_or, z_b_T, z_b_F, Bool.false_eq_true, Classical.not_not, decide_eq_true_eq, z_sq, Option.bind_some, z_lits, z_n_add, z_n_mul, z_lt, z_le, z_eq, z_ne1, z_1ne, z_lt1, z_1lt, z_ltT, z_ltF, z_leT, z_leF, z_eqF, z_b_0, z_b_1, ↓reduceIte, eq_self, not_true_eq_false, not_false_eq_true, and_true, true_and, and_false, false_and, Nat.add_zero, Nat.zero_add]
      · simp (disch := omega) only [f_Mo_fit, M_thr hS, M_isTable hx, M_wout hao, or_true, true_or, or_false, false_or, z_b_T, z_b_F, Bool.false_eq_true, Classical.not_not, decide_eq_true_eq, z_sq, Option.bind_some, z_lits, z_n_add, z_n_mul, z_lt, z_le, z_eq, z_ne1, z_1ne, z_lt1, z_1lt, z_ltT, z_ltF, z_leT, z_leF, z_eqF, z_b_0, z_b_1, ↓reduceIte, eq_self, not_true_eq_false, not_false_eq_true, and_true, true_and, and_false, false_and, Nat.add_zero, Nat.zero_add]
  · refine z_pr.same (r := -1) ?_ ?_ m
    · simp (disch := omega) only [f_Rs_fit, C_isTable_o ho, or_true, true_or, or_false, false_or, z_b_T, z_b_F, Bool.false_eq_true, Classical.not_not, decide_eq_true_eq, z_sq, Option.bind_some, z_lits, z_n_add, z_n_mul, z_lt, z_le, z_eq, z_ne1, z_1ne, z_lt1, z_1lt, z_ltT, z_ltF, z_leT, z_leF, z_eqF, z_b_0, z_b_1, ↓reduceIte, eq_self, not_true_eq_false, not_false_eq_true, and_true, true_and, and_false, false_and, Nat.add_zero, Nat.zero_add]
    · simp (disch := omega) only [f_Mo_fit, M_thr hS, M_isTable_o ho, or_true, true_or, or_false, false_or, z_b_T, z_b_F, Bool.false_eq_true, Classical.not_not, decide_eq_true_eq, z_sq, Option.bind_some, z_lits, z_n_add, z_n_mul, z_lt, z_le, z_eq, z_ne1, z_1ne, z_lt1, z_1lt, z_ltT, z_ltF, z_leT, z_leF, z_eqF, z_b_0, z_b_1, ↓reduceIte, eq_self, not_true_eq_false, not_false_eq_true, and_true, true_and, and_false, false_and, Nat.add_zero, Nat.zero_add]
/-- the BEST of the first tables -/
def u_bt (I : z_MI) (a : Nat) : Nat → Nat
  | 0 => 0
  | t + 1 => if u_fit I (t + 1) a < u_fit I (u_bt I a t) a then t + 1 else u_bt I a t
theorem u_bt_le (I : z_MI) (a : Nat) : ∀ t, u_bt I a t ≤ t
  | 0 => Nat.le_refl _
  | t + 1 => by
    have := u_bt_le I a t
    rw [u_bt]; split <;> omega
theorem u_fit_le (B : z_B S I J P K n.1) {t a : Nat} (ht : t < 4) : u_fit I t a ≤ 17 * 20000000 := u_sf_le (fun i hi => u_of_le B ht hi) (by omega)
set_option maxRecDepth 100000 in
set_option maxHeartbeats 4000000 in
theorem X_best (B : z_B S I J P K n.1) (a : Int32) : z_pr (f_Rs_best 8 a) (f_Mo_best 83 a) S I J P K n := by
  have hS := B.qS
  have hP := B.qP
  have hn := B.qn
  have m : z_mf I J (z_up I 83 0 (z_n 0)) J := z_mf.up rfl
  rcases z_in a 16 (by omega) with ⟨y, hy, rfl⟩ | hao
  · obtain ⟨S', J', P', h1, h2, h3⟩ := C_group B
    have B2 : z_B S' (z_ri I n.1 (u_row (u_gr I) fun _ => z_n 0)) J' P' K (n.1 + 1, n.2 + 17).1 := B.mono z_keep0 h2 (by simp)
    have cg := h2.cg (K := K) z_keep0 B.2.2.1.2 hn
    have ms := fun x hx => C_misfit (n := (n.1 + 1, n.2 + 17)) B2 cg (t := x) (a := y) hx hy h3 (fun k hk => by rw [z_ri_s]; exact if_pos hk)
    generalize hI2 : (z_ri I n.1 (u_row (u_gr I) fun _ => z_n 0)) = I2 at *
    have m' : z_mf I2 J' (z_up I2 83 0 (z_n 0)) J' := z_mf.up rfl
    have flt : ∀ t u, t < 4 → u < 4 → (z_z (u_fit I t y : Nat) < z_z (u_fit I u y : Nat)) = (u_fit I t y < u_fit I u y) := by
      intro t u ht hu
      have l1 := u_fit_le B (a := y) ht
      have l2 := u_fit_le B (a := y) hu
      rw [z_z_lt (by omega) (by omega) (by omega) (by omega)]
      exact propext ⟨fun h => by omega, fun h => by omega⟩
    have hc := z_run (fun m i => f_Rs_best_L34 8 (z_n y) n.1 m (z_n (u_bt I y i)) (z_z (u_fit I (u_bt I y i) y : Nat)) (z_n (i + 1)) (z_h S' I2 J' P' (n.1 + 1, n.2 + 17))) 3 (r := some (z_n (u_bt I y 3), z_h S' I2 J' P' (n.1 + 1, n.2 + 17))) (by omega)
      (by
        intro m i hi
        have q := ms (i + 1) (by omega)
        have hb := u_bt_le I y i
        have f := flt (i + 1) (u_bt I y i) (by omega) (by omega)
        by_cases k : u_fit I (i + 1) y < u_fit I (u_bt I y i) y
        · have e : u_bt I y (i + 1) = i + 1 := by rw [u_bt, if_pos k]
          simp (disch := omega) only [f_Rs_best_L34, C_lives B2.qS B2.qP, q, f, k, e, or_true, true_or, or_false, false_or, z_b_T, z_b_F, Bool.false_eq_true, Classical.not_not, decide_eq_true_eq, z_sq, Option.bind_some, z_lits, z_n_add, z_n_mul, z_lt, z_le, z_eq, z_ne1, z_1ne, z_lt1, z_1lt, z_ltT, z_ltF, z_leT, z_leF, z_eqF, z_b_0, z_b_1, ↓reduceIte, eq_self, not_true_eq_false, not_false_eq_true, and_true, true_and, and_false, false_and, Nat.add_zero, Nat.zero_add]
        · have e : u_bt I y (i + 1) = u_bt I y i := by rw [u_bt, if_neg k]
          simp (disch := omega) only [f_Rs_best_L34, C_lives B2.qS B2.qP, q, f, k, e, or_true, true_or, or_false, false_or, z_b_T, z_b_F, Bool.false_eq_true, Classical.not_not, decide_eq_true_eq, z_sq, Option.bind_some, z_lits, z_n_add, z_n_mul, z_lt, z_le, z_eq, z_ne1, z_1ne, z_lt1, z_1lt, z_ltT, z_ltF, z_leT, z_leF, z_eqF, z_b_0, z_b_1, ↓reduceIte, eq_self, not_true_eq_false, not_false_eq_true, and_true, true_and, and_false, false_and, Nat.add_zero, Nat.zero_add])
      (by
        intro m
        simp (disch := omega) only [f_Rs_best_L34, or_true, true_or, or_false, false_or, z_b_T, z_b_F, Bool.false_eq_true, Classical.not_not, decide_eq_true_eq, z_sq, Option.bind_some, z_lits, z_n_add, z_n_mul, z_lt, z_le, z_eq, z_ne1, z_1ne, z_lt1, z_1lt, z_ltT, z_ltF, z_leT, z_leF, z_eqF, z_b_0, z_b_1, ↓reduceIte, eq_self, not_true_eq_false, not_false_eq_true, and_true, true_and, and_false, false_and, Nat.add_zero, Nat.zero_add])
    have hm := z_runI (fun m i (X : z_MI) => f_Mo_best_L21 83 (z_n y) m (z_n (u_bt I y i)) (z_n (i + 1)) (z_h S' X J' P' (n.1 + 1, n.2 + 17))) 3
      (fun i X => z_mf (z_up I2 83 0 (z_n 0)) J' X J') (fun r => ∃ X, r = some (z_n (u_bt I y 3), z_h S' X J' P' (n.1 + 1, n.2 + 17)) ∧ z_mf (z_up I2 83 0 (z_n 0)) J' X J') (by omega)
      (by
        intro m i X hi q
        have hb := u_bt_le I y i
        have c1 := (cg.trans m'.cg).trans q.cg
        have f1 := M_fitOf B B2.qS B2.qP c1 (n' := (n.1 + 1, n.2 + 17)) (t := i + 1) (a := y) (by omega) hy
        have q1 := q.trans (u_gx_mf X J' (X 102) (u_gr I))
        have f2 := M_fitOf B B2.qS B2.qP ((cg.trans m'.cg).trans q1.cg) (n' := (n.1 + 1, n.2 + 17)) (t := u_bt I y i) (a := y) (by omega) hy
        have q2 := q1.trans (u_gx_mf (u_gx X (X 102) (u_gr I)) J' (u_gx X (X 102) (u_gr I) 102) (u_gr I))
        have f := flt (i + 1) (u_bt I y i) (by omega) (by omega)
        refine ⟨_, q2, ?_⟩
        by_cases k : u_fit I (i + 1) y < u_fit I (u_bt I y i) y
        · have e : u_bt I y (i + 1) = i + 1 := by rw [u_bt, if_pos k]
          simp (disch := omega) only [f_Mo_best_L21, z_ob (s_83 B2.qS), f1, f2, f, k, e, or_true, true_or, or_false, false_or, z_b_T, z_b_F, Bool.false_eq_true, Classical.not_not, decide_eq_true_eq, z_sq, Option.bind_some, z_lits, z_n_add, z_n_mul, z_lt, z_le, z_eq, z_ne1, z_1ne, z_lt1, z_1lt, z_ltT, z_ltF, z_leT, z_leF, z_eqF, z_b_0, z_b_1, ↓reduceIte, eq_self, not_true_eq_false, not_false_eq_true, and_true, true_and, and_false, false_and, Nat.add_zero, Nat.zero_add]
        · have e : u_bt I y (i + 1) = u_bt I y i := by rw [u_bt, if_neg k]
          simp (disch := omega) only [f_Mo_best_L21, z_ob (s_83 B2.qS), f1, f2, f, k, e, or_true, true_or, or_false, false_or, z_b_T, z_b_F, Bool.false_eq_true, Classical.not_not, decide_eq_true_eq, z_sq, Option.bind_some, z_lits, z_n_add, z_n_mul, z_lt, z_le, z_eq, z_ne1, z_1ne, z_lt1, z_1lt, z_ltT, z_ltF, z_leT, z_leF, z_eqF, z_b_0, z_b_1, ↓reduceIte, eq_self, not_true_eq_false, not_false_eq_true, and_true, true_and, and_false, false_and, Nat.add_zero, Nat.zero_add])
      (by
        intro m X q
        refine ⟨X, ?_, q⟩
        simp (disch := omega) only [f_Mo_best_L21, or_true, true_or, or_false, false_or, z_b_T, z_b_F, Bool.false_eq_true, Classical.not_not, decide_eq_true_eq, z_sq, Option.bind_some, z_lits, z_n_add, z_n_mul, z_lt, z_le, z_eq, z_ne1, z_1ne, z_lt1, z_1lt, z_ltT, z_ltF, z_leT, z_leF, z_eqF, z_b_0, z_b_1, ↓reduceIte, eq_self, not_true_eq_false, not_false_eq_true, and_true, true_and, and_false, false_and, Nat.add_zero, Nat.zero_add])
      (x := z_up I2 83 0 (z_n 0)) (z_mf.refl _ _)
    obtain ⟨X, e1, e2⟩ := hm
    have q0 := ms 0 (by omega)
    refine ⟨z_n (u_bt I y 3), S', I2, J', P', (n.1 + 1, n.2 + 17), X, J', ?_, ?_, h2.x0, ⟨by simp, by simp, by simp⟩, m'.trans e2⟩
    · have hc' : f_Rs_best_L34 8 (z_n y) n.1 q_FU (z_n 0) (z_z (u_fit I 0 y : Nat)) (z_n 1) (z_h S' I2 J' P' (n.1 + 1, n.2 + 17)) = _ := hc
      simp (disch := omega) only [f_Rs_best, C_in, C_lives hS hP, C_lives B2.qS B2.qP, C_gat8 hS, h1, q0, hc', or_true, true_or, or_false, false_or, z_b_T, z_b_F, Bool.false_eq_true, Classical.not_not, decide_eq_true_eq, z_sq, Option.bind_some, z_lits, z_n_add, z_n_mul, z_lt, z_le, z_eq, z_ne1, z_1ne, z_lt1, z_1lt, z_ltT, z_ltF, z_leT, z_leF, z_eqF, z_b_0, z_b_1, ↓reduceIte, eq_self, not_true_eq_false, not_false_eq_true, and_true, true_and, and_false, false_and, Nat.add_zero, Nat.zero_add]
    · have e1' : f_Mo_best_L21 83 (z_n y) q_FU (z_n 0) (z_n 1) (z_h S' (z_up I2 83 0 (z_n 0)) J' P' (n.1 + 1, n.2 + 17)) = _ := e1
      simp (disch := omega) only [f_Mo_best, M_thr B2.qS, M_win, e1', or_true, true_or, or_false, false_or, z_b_T, z_b_F, Bool.false_eq_true, Classical.not_not, decide_eq_true_eq, z_sq, Option.bind_some, z_lits, z_n_add, z_n_mul, z_lt, z_le, z_eq, z_ne1, z_1ne, z_lt1, z_1lt, z_ltT, z_ltF, z_leT, z_leF, z_eqF, z_b_0, z_b_1, ↓reduceIte, eq_self, not_true_eq_false, not_false_eq_true, and_true, true_and, and_false, false_and, Nat.add_zero, Nat.zero_add]
  · refine z_pr.same (r := -z_n 1) ?_ ?_ m
    · simp (disch := omega) only [f_Rs_best, C_out hao, or_true, true_or, or_false, false_or, z_b_T, z_b_F, Bool.false_eq_true, Classical.not_not, decide_eq_true_eq, z_sq, Option.bind_some, z_lits, z_n_add, z_n_mul, z_lt, z_le, z_eq, z_ne1, z_1ne, z_lt1, z_1lt, z_ltT, z_ltF, z_leT, z_leF, z_eqF, z_b_0, z_b_1, ↓reduceIte, eq_self, not_true_eq_false, not_false_eq_true, and_true, true_and, and_false, false_and, Nat.add_zero, Nat.zero_add]
    · simp (disch := omega) only [f_Mo_best, M_thr hS, M_wout hao, or_true, true_or, or_false, false_or, z_b_T, z_b_F, Bool.false_eq_true, Classical.not_not, decide_eq_true_eq, z_sq, Option.bind_some, z_lits, z_n_add, z_n_mul, z_lt, z_le, z_eq, z_ne1, z_1ne, z_lt1, z_1lt, z_ltT, z_ltF, z_leT, z_leF, z_eqF, z_b_0, z_b_1, ↓reduceIte, eq_self, not_true_eq_false, not_false_eq_true, and_true, true_and, and_false, false_and, Nat.add_zero, Nat.zero_add]
end
