/-! READ: the class takes a name. -/
/-- a line of a page -/
def k_ln (I : z_MI) (J : z_MJ) (g : Nat) (D : z_D) (l t : Nat) : Prop := (∀ k, k < 3 → J (g + 1 + k) l = D.2.2 k l) ∧ I (g + 4) l = D.2.1 0 l ∧ I (g + 5) l = D.2.1 1 l ∧ I (g + 6) l = z_n t ∧ I (g + 7) l = D.2.1 2 l ∧ I (g + 8) l = D.2.1 3 l
/-- lines that are not written yet -/
def k_nw (I : z_MI) (J : z_MJ) (g : Nat) (l : Nat) : Prop := ∀ l', l ≤ l' → l' < 12 → I (g + 6) l' = z_n 0 ∧ J (g + 2) l' = 0 ∧ J (g + 3) l' = 0
/-- a page while a line's tags are read: t the tags -/
def k_pg (I : z_MI) (J : z_MJ) (g : Nat) (D : z_D) (t : Nat) : Prop := z_pd I J g D ∧ k_ln I J g D D.1 t ∧ k_nw I J g (D.1 + 1) ∧ D.1 < 12
def k_v4 (D : z_D) : Prop := ∃ v, v < 16 ∧ D.2.1 4 D.1 = z_n v
/-- the answer and the page when a tag is read -/
def k_an (T : k_T) (g : Nat) (D : z_D) (r : Int32) (X : z_MI) (Z : z_MJ) (O : k_O) : Prop := match O with
  | .inl F => r = z_n F
  | .inr (p', D') => r = z_n 0 ∧ D'.1 = D.1 ∧ k_pg X Z g D' (d_tg D' D.1) ∧ k_v4 D' ∧ X 9 2 = z_n p'
theorem d_sj_eq (D : z_D) (k : Nat) (v : Int64) : d_eq D (d_sj D k D.1 v) := ⟨rfl, fun l hl => ⟨fun _ _ => rfl, fun k' _ => by
  show _ = if k' = k ∧ l = D.1 then v else _
  rw [if_neg (by omega)]⟩⟩
theorem d_si_eq (D : z_D) (k : Nat) (v : Int32) : d_eq D (d_si D k D.1 v) := ⟨rfl, fun l hl => ⟨fun k' _ => by
  show _ = if k' = k ∧ l = D.1 then v else _
  rw [if_neg (by omega)], fun _ _ => rfl⟩⟩
theorem d_sj_at (D : z_D) (k l : Nat) (v : Int64) : (d_sj D k l v).2.2 k l = v := if_pos ⟨rfl, rfl⟩
theorem d_si_at (D : z_D) (k l : Nat) (v : Int32) : (d_si D k l v).2.1 k l = v := if_pos ⟨rfl, rfl⟩
theorem d_sj_ne (D : z_D) {k k' : Nat} (l l' : Nat) (v : Int64) (h : k' ≠ k) : (d_sj D k l v).2.2 k' l' = D.2.2 k' l' := if_neg fun e => h e.1
theorem d_si_ne (D : z_D) {k k' : Nat} (l l' : Nat) (v : Int32) (h : k' ≠ k) : (d_si D k l v).2.1 k' l' = D.2.1 k' l' := if_neg fun e => h e.1
theorem k_pd {I X : z_MI} {J Z : z_MJ} {g : Nat} {D : z_D} (h : z_pd I J g D) (e : ∀ l, l < D.1 → ∀ k, 1 ≤ k → k ≤ 8 → X (g + k) l = I (g + k) l ∧ Z (g + k) l = J (g + k) l) (e0 : X g 0 = I g 0) : z_pd X Z g D := by
  obtain ⟨h1, h2, h3⟩ := h
  refine ⟨e0.trans h1, fun k l hk hl => ?_, fun l hl => ?_⟩
  · rw [Nat.add_assoc, (e l hl (1 + k) (by omega) (by omega)).2, ← Nat.add_assoc]; exact h2 k l hk hl
  · rw [(e l hl 4 (by omega) (by omega)).1, (e l hl 5 (by omega) (by omega)).1, (e l hl 6 (by omega) (by omega)).1, (e l hl 7 (by omega) (by omega)).1, (e l hl 8 (by omega) (by omega)).1]; exact h3 l hl
theorem d_tg_0 {D : z_D} {l : Nat} {v : Int64} (h : D.2.2 1 l = 0) (hv : ¬ v = 0) : d_tg (d_sj D 1 l v) l = d_tg D l + 16 := by
  by_cases a : D.2.2 2 l = 0 <;> by_cases b : D.2.1 2 l = -z_n 1 <;> by_cases c : D.2.1 3 l = -z_n 1 <;> simp [d_tg, d_sj, h, hv, a, b, c] <;> omega
theorem d_tg_1 {D : z_D} {l : Nat} {v : Int64} (h : D.2.2 2 l = 0) (hv : ¬ v = 0) : d_tg (d_sj D 2 l v) l = d_tg D l + 32 := by
  by_cases a : D.2.2 1 l = 0 <;> by_cases b : D.2.1 2 l = -z_n 1 <;> by_cases c : D.2.1 3 l = -z_n 1 <;> simp [d_tg, d_sj, h, hv, a, b, c] <;> omega
theorem d_tg_2 {D : z_D} {l m : Nat} (h : D.2.1 2 l = -z_n 1) (hm : m < 12) : d_tg (d_si D 2 l (z_n m)) l = d_tg D l + 64 := by
  have hv : ¬ z_n m = -z_n 1 := by rw [z_ne1 (by omega)]; exact id
  by_cases a : D.2.2 2 l = 0 <;> by_cases b : D.2.2 1 l = 0 <;> by_cases c : D.2.1 3 l = -z_n 1 <;> simp [d_tg, d_si, h, hv, a, b, c] <;> omega
theorem d_tg_3 {D : z_D} {l m : Nat} (h : D.2.1 3 l = -z_n 1) (hm : m < 12) : d_tg (d_si D 3 l (z_n m)) l = d_tg D l + 128 := by
  have hv : ¬ z_n m = -z_n 1 := by rw [z_ne1 (by omega)]; exact id
  by_cases a : D.2.2 2 l = 0 <;> by_cases b : D.2.2 1 l = 0 <;> by_cases c : D.2.1 2 l = -z_n 1 <;> simp [d_tg, d_si, h, hv, a, b, c]
section
variable {S : z_SH} {I : z_MI} {J : z_MJ} {P : z_MP} {K : Nat → Bool} {n : Nat × Nat} {T : k_T} {r g p t : Nat} {D : z_D}
theorem k_pg.j {v : Int64} {k : Nat} (h : k_pg I J g D t) (hk : 1 ≤ k) (hk2 : k < 3) : k_pg I (z_uj J (g + 1 + k) D.1 v) g (d_sj D k D.1 v) t := by
  obtain ⟨h1, ⟨h2, h3, h4, h5, h6, h7⟩, h8, h9⟩ := h
  refine ⟨(k_pd h1 (fun l hl k' _ _ => ⟨rfl, ?_⟩) rfl).deq (d_sj_eq D k v), ⟨fun k' hk' => ?_, h3, h4, h5, h6, h7⟩, fun l h1 h2 => ⟨(h8 l h1 h2).1, ?_, ?_⟩, h9⟩
  · exact z_uj_i (by omega)
  · show z_uj J (g + 1 + k) D.1 v (g + 1 + k') D.1 = if k' = k ∧ D.1 = D.1 then v else _
    by_cases e : k' = k
    · rw [if_pos ⟨e, rfl⟩, e, z_uj_s]
    · rw [if_neg (fun q => e q.1), z_uj_a (by omega)]; exact h2 k' hk'
  · rw [z_uj_i (show l ≠ D.1 by change D.1 + 1 ≤ l at h1; omega)]; exact (h8 l h1 h2).2.1
  · rw [z_uj_i (show l ≠ D.1 by change D.1 + 1 ≤ l at h1; omega)]; exact (h8 l h1 h2).2.2
theorem k_pg.i {v : Int32} {k : Nat} (h : k_pg I J g D t) (hk : k = 2 ∨ k = 3) : k_pg (z_up I (g + 5 + k) D.1 v) J g (d_si D k D.1 v) t := by
  obtain ⟨h1, ⟨h2, h3, h4, h5, h6, h7⟩, h8, h9⟩ := h
  have ne : ∀ k', k' < 2 → (d_si D k D.1 v).2.1 k' D.1 = D.2.1 k' D.1 := fun k' hk' => d_si_ne _ _ _ _ (by omega)
  refine ⟨(k_pd h1 (fun l hl k' _ _ => ⟨?_, rfl⟩) ?_).deq (d_si_eq D k v), ⟨h2, ?_, ?_, ?_, ?_, ?_⟩, fun l h1 h2 => ⟨?_, (h8 l h1 h2).2⟩, h9⟩
  · exact z_up_i (by omega)
  · exact z_up_a (by omega)
  · rw [z_up_a (by omega)]; exact h3.trans (ne 0 (by omega)).symm
  · rw [z_up_a (by omega)]; exact h4.trans (ne 1 (by omega)).symm
  · rw [z_up_a (by omega)]; exact h5
  · rcases hk with rfl | rfl
    · show z_up I (g + 7) D.1 v (g + 7) D.1 = (d_si D 2 D.1 v).2.1 2 D.1
      rw [z_up_s, d_si_at]
    · rw [z_up_a (by omega), d_si_ne _ _ _ _ (by decide)]; exact h6
  · rcases hk with rfl | rfl
    · rw [z_up_a (by omega), d_si_ne _ _ _ _ (by decide)]; exact h7
    · show z_up I (g + 8) D.1 v (g + 8) D.1 = (d_si D 3 D.1 v).2.1 3 D.1
      rw [z_up_s, d_si_at]
  · rw [z_up_a (by omega)]; exact (h8 l h1 h2).1
theorem k_fr_j {k : Nat} {v : Int64} (hk : k ≤ 8) (hg : 131 ≤ g) (i : Nat) : k_fr g I J I (z_uj J (g + k) i v) := ⟨fun a h1 h2 => ⟨rfl, z_uj_r (by omega)⟩, rfl⟩
theorem k_fr_i {k : Nat} {v : Int32} (hk : k ≤ 8) (hg : 131 ≤ g) (i : Nat) : k_fr g I J (z_up I (g + k) i v) J := ⟨fun a h1 h2 => ⟨z_up_r (by omega), rfl⟩, z_up_a (by omega)⟩
set_option maxRecDepth 100000 in
set_option maxHeartbeats 4000000 in
theorem C_takeName (hS : z_St S) (hP : z_Pt P) (h : k_cl S P r g) (hp : p ≤ T.1) (k : k_C T p I J) (kk : k_k T p = 1) {t : Nat} (ht : t < 4) (sn : ¬ d_sn D D.1 t = true) (pg : k_pg I J g D (d_tg D D.1 + k_tb.getD t 0)) (v4 : k_v4 D) :
    ∃ r' X Z, f_Sr_takeName r (z_n D.1) (z_n t) (z_h S I J P n) = some (r', z_h S X Z P n) ∧ k_fr g I J X Z ∧ k_an T g D r' X Z (k_take T p t D) := by
  obtain ⟨h0, h1, h2, h3, h4, hg⟩ := h
  have r0 : ∀ I J, q_gr (q_gf (z_h S I J P n) 7 r 0) = some 9 := fun _ _ => z_gr h1 rfl h2
  have r2 : ∀ I J, q_gr (q_gf (z_h S I J P n) 7 r 2) = some g := fun _ _ => z_gr h1 rfl h4
  have o9 := z_ob (I := I) (J := J) (P := P) (n := n) (s_9 hS)
  have r5 : q_gl' (q_gf (z_h S I J P n) 1 9 5) = some (k_vl T p) := by rw [z_gl (s_9 hS) rfl, k.2.2.2]
  have rp := z_ps_r h0
  have nz := k_vl_nz hp kk
  have ft := C_fault (I := I) (J := J) (P := P) (n := n) hS k.2.2.1
  have ln := C_lineOf (n := n) (x := k_vl T p) h0 pg.1 (by have := pg.2.2.2; omega)
  have hw := C_hasWife (n := n) h0 pg.1 (by have := pg.2.2.2; omega)
  have l12 := pg.2.2.2
  unfold k_take
  have k92 := k.1
  generalize k_vl T p = x at *
  have cs : t = 0 ∨ t = 1 ∨ t = 2 ∨ t = 3 := by omega
  rcases cs with rfl | rfl | rfl | rfl
  · have e0 : D.2.2 1 D.1 = 0 := by
      have := sn
      unfold d_sn at this
      rw [if_pos rfl, decide_eq_true_eq] at this
      exact Classical.not_not.mp this
    refine ⟨z_n 0, I, z_uj J (g + 2) D.1 x, ?_, k_fr_j (by omega) hg _, rfl, rfl, ?_, v4, k92⟩
    · have w := fun I J => z_sal (I := I) (J := J) (P := P) (n := n) (v := x) (h0.2.2.1 2 (by omega) (by omega)) (by omega) (show D.1 < 2147483648 by omega) (z_rpl l12)
      simp (disch := omega) only [f_Sr_takeName, r0, r2, r5, rp, w, or_true, true_or, or_false, false_or, z_b_T, z_b_F, Bool.false_eq_true, Classical.not_not, decide_eq_true_eq, z_sq, Option.bind_some, z_lits, z_n_add, z_n_mul, z_lt, z_le, z_eq, z_ne1, z_1ne, z_lt1, z_1lt, z_ltT, z_ltF, z_leT, z_leF, z_eqF, z_b_0, z_b_1, ↓reduceIte, eq_self, not_true_eq_false, not_false_eq_true, and_true, true_and, and_false, false_and, Nat.add_zero, Nat.zero_add]
    · rw [d_tg_0 e0 nz]; exact pg.j (k := 1) (by omega) (by omega)
  · have e0 : D.2.2 2 D.1 = 0 := by
      have := sn
      unfold d_sn at this
      rw [if_neg (by decide), if_pos rfl, decide_eq_true_eq] at this
      exact Classical.not_not.mp this
    refine ⟨z_n 0, I, z_uj J (g + 3) D.1 x, ?_, k_fr_j (by omega) hg _, rfl, rfl, ?_, v4, k92⟩
    · have w := fun I J => z_sal (I := I) (J := J) (P := P) (n := n) (v := x) (h0.2.2.1 3 (by omega) (by omega)) (by omega) (show D.1 < 2147483648 by omega) (z_rpl l12)
      simp (disch := omega) only [f_Sr_takeName, r0, r2, r5, rp, w, or_true, true_or, or_false, false_or, z_b_T, z_b_F, Bool.false_eq_true, Classical.not_not, decide_eq_true_eq, z_sq, Option.bind_some, z_lits, z_n_add, z_n_mul, z_lt, z_le, z_eq, z_ne1, z_1ne, z_lt1, z_1lt, z_ltT, z_ltF, z_leT, z_leF, z_eqF, z_b_0, z_b_1, ↓reduceIte, eq_self, not_true_eq_false, not_false_eq_true, and_true, true_and, and_false, false_and, Nat.add_zero, Nat.zero_add]
    · rw [d_tg_1 e0 nz]; exact pg.j (k := 2) (by omega) (by omega)
  · have e0 : D.2.1 2 D.1 = -z_n 1 := by
      have := sn
      unfold d_sn at this
      rw [if_neg (by decide), if_neg (by decide), if_pos rfl, decide_eq_true_eq] at this
      exact Classical.not_not.mp this
    rw [if_neg (by decide), if_neg (by decide)]
    by_cases q : d_nm x D < D.1
    · rw [if_pos q] at ln
      have sx := (pg.1.2.2 _ q).1
      have hw := hw (d_nm x D)
      generalize d_nm x D = m at *
      by_cases q1 : D.2.1 0 m = z_n 0
      · rw [if_neg (show ¬ (¬ m < D.1 ∨ 2 = 2 ∧ ¬ D.2.1 0 m = z_n 0) from fun e => e.elim (fun e => e q) (fun e => e.2 q1)), if_neg (by decide)]
        by_cases q2 : d_wed D m = true
        · rw [if_pos q2]
          rw [z_b_t q2] at hw
          have ft := ft 3
          generalize k_fl T 3 p = F at *
          refine ⟨z_n F, I, J, ?_, ⟨fun _ _ _ => ⟨rfl, rfl⟩, rfl⟩, rfl⟩
          simp (disch := omega) only [f_Sr_takeName, r0, r2, r5, o9, rp, ln, sx, q1, hw, ft, or_true, true_or, or_false, false_or, z_b_T, z_b_F, Bool.false_eq_true, Classical.not_not, decide_eq_true_eq, z_sq, Option.bind_some, z_lits, z_n_add, z_n_mul, z_lt, z_le, z_eq, z_ne1, z_1ne, z_lt1, z_1lt, z_ltT, z_ltF, z_leT, z_leF, z_eqF, z_b_0, z_b_1, ↓reduceIte, eq_self, not_true_eq_false, not_false_eq_true, and_true, true_and, and_false, false_and, Nat.add_zero, Nat.zero_add]
        · rw [if_neg q2]
          rw [z_b_f q2] at hw
          refine ⟨z_n 0, z_up I (g + 7) D.1 (z_n m), J, ?_, k_fr_i (by omega) hg _, rfl, rfl, ?_, v4, ?_⟩
          · have w := fun I J => z_sai (I := I) (J := J) (P := P) (n := n) (v := z_n m) (h0.2.2.2.2.1 7 (by omega) (by omega)) (by omega) (show D.1 < 2147483648 by omega) (z_rpl l12)
            simp (disch := omega) only [f_Sr_takeName, r0, r2, r5, rp, ln, sx, q1, hw, w, or_true, true_or, or_false, false_or, z_b_T, z_b_F, Bool.false_eq_true, Classical.not_not, decide_eq_true_eq, z_sq, Option.bind_some, z_lits, z_n_add, z_n_mul, z_lt, z_le, z_eq, z_ne1, z_1ne, z_lt1, z_1lt, z_ltT, z_ltF, z_leT, z_leF, z_eqF, z_b_0, z_b_1, ↓reduceIte, eq_self, not_true_eq_false, not_false_eq_true, and_true, true_and, and_false, false_and, Nat.add_zero, Nat.zero_add]
          · rw [d_tg_2 e0 (by omega)]; exact pg.i (k := 2) (Or.inl rfl)
          · rw [z_up_a (by omega)]; exact k92
      · rw [if_pos (show (¬ m < D.1 ∨ 2 = 2 ∧ ¬ D.2.1 0 m = z_n 0) from Or.inr ⟨rfl, q1⟩)]
        have ft := ft 2
        generalize k_fl T 2 p = F at *
        refine ⟨z_n F, I, J, ?_, ⟨fun _ _ _ => ⟨rfl, rfl⟩, rfl⟩, rfl⟩
        simp (disch := omega) only [f_Sr_takeName, r0, r2, r5, o9, rp, ln, sx, q1, ft, or_true, true_or, or_false, false_or, z_b_T, z_b_F, Bool.false_eq_true, Classical.not_not, decide_eq_true_eq, z_sq, Option.bind_some, z_lits, z_n_add, z_n_mul, z_lt, z_le, z_eq, z_ne1, z_1ne, z_lt1, z_1lt, z_ltT, z_ltF, z_leT, z_leF, z_eqF, z_b_0, z_b_1, ↓reduceIte, eq_self, not_true_eq_false, not_false_eq_true, and_true, true_and, and_false, false_and, Nat.add_zero, Nat.zero_add]
    · rw [if_neg q] at ln
      rw [if_pos (Or.inl q)]
      have ft := ft 2
      generalize k_fl T 2 p = F at *
      refine ⟨z_n F, I, J, ?_, ⟨fun _ _ _ => ⟨rfl, rfl⟩, rfl⟩, rfl⟩
      simp (disch := omega) only [f_Sr_takeName, r0, r2, r5, o9, rp, ln, ft, or_true, true_or, or_false, false_or, z_b_T, z_b_F, Bool.false_eq_true, Classical.not_not, decide_eq_true_eq, z_sq, Option.bind_some, z_lits, z_n_add, z_n_mul, z_lt, z_le, z_eq, z_ne1, z_1ne, z_lt1, z_1lt, z_ltT, z_ltF, z_leT, z_leF, z_eqF, z_b_0, z_b_1, ↓reduceIte, eq_self, not_true_eq_false, not_false_eq_true, and_true, true_and, and_false, false_and, Nat.add_zero, Nat.zero_add]
  · have e0 : D.2.1 3 D.1 = -z_n 1 := by
      have := sn
      unfold d_sn at this
      rw [if_neg (by decide), if_neg (by decide), if_neg (by decide), if_pos rfl, decide_eq_true_eq] at this
      exact Classical.not_not.mp this
    rw [if_neg (by decide), if_neg (by decide)]
    by_cases q : d_nm x D < D.1
    · rw [if_pos q] at ln
      generalize d_nm x D = m at *
      rw [if_neg (show ¬ (¬ m < D.1 ∨ 3 = 2 ∧ ¬ D.2.1 0 m = z_n 0) from fun e => e.elim (fun e => e q) (fun e => absurd e.1 (by decide))), if_pos rfl]
      refine ⟨z_n 0, z_up I (g + 8) D.1 (z_n m), J, ?_, k_fr_i (by omega) hg _, rfl, rfl, ?_, v4, ?_⟩
      · have w := fun I J => z_sai (I := I) (J := J) (P := P) (n := n) (v := z_n m) (h0.2.2.2.2.1 8 (by omega) (by omega)) (by omega) (show D.1 < 2147483648 by omega) (z_rpl l12)
        simp (disch := omega) only [f_Sr_takeName, r0, r2, r5, rp, ln, w, or_true, true_or, or_false, false_or, z_b_T, z_b_F, Bool.false_eq_true, Classical.not_not, decide_eq_true_eq, z_sq, Option.bind_some, z_lits, z_n_add, z_n_mul, z_lt, z_le, z_eq, z_ne1, z_1ne, z_lt1, z_1lt, z_ltT, z_ltF, z_leT, z_leF, z_eqF, z_b_0, z_b_1, ↓reduceIte, eq_self, not_true_eq_false, not_false_eq_true, and_true, true_and, and_false, false_and, Nat.add_zero, Nat.zero_add]
      · rw [d_tg_3 e0 (by omega)]; exact pg.i (k := 3) (Or.inr rfl)
      · rw [z_up_a (by omega)]; exact k92
    · rw [if_neg q] at ln
      rw [if_pos (Or.inl q)]
      have ft := ft 2
      generalize k_fl T 2 p = F at *
      refine ⟨z_n F, I, J, ?_, ⟨fun _ _ _ => ⟨rfl, rfl⟩, rfl⟩, rfl⟩
      simp (disch := omega) only [f_Sr_takeName, r0, r2, r5, o9, rp, ln, ft, or_true, true_or, or_false, false_or, z_b_T, z_b_F, Bool.false_eq_true, Classical.not_not, decide_eq_true_eq, z_sq, Option.bind_some, z_lits, z_n_add, z_n_mul, z_lt, z_le, z_eq, z_ne1, z_1ne, z_lt1, z_1lt, z_ltT, z_ltF, z_leT, z_leF, z_eqF, z_b_0, z_b_1, ↓reduceIte, eq_self, not_true_eq_false, not_false_eq_true, and_true, true_and, and_false, false_and, Nat.add_zero, Nat.zero_add]
end
