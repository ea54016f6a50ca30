/-! TABLES of lives: at, life, fit, best. -/
def u_lv (I : z_MI) (t k : Nat) : Nat := (I 101 (17 * t + k)).toNatClampNeg
def u_at (I : z_MI) (t a : Nat) : Nat := if a < 80 then u_lv I t (a / 5) * (5 - a % 5) + u_lv I t (a / 5 + 1) * (a % 5) else 5 * u_lv I t 16
def u_ng (I : z_MI) (t k : Nat) : Nat := u_lv I t k + if k < 16 then u_lv I t (k + 1) else 0
theorem u_lv_c {I I' : z_MI} {J J' : z_MJ} (h : z_cg I J I' J') (t k : Nat) : u_lv I' t k = u_lv I t k := by unfold u_lv; rw [h.i _ rfl]
theorem u_at_c {I I' : z_MI} {J J' : z_MJ} (h : z_cg I J I' J') (t a : Nat) : u_at I' t a = u_at I t a := by unfold u_at; rw [u_lv_c h, u_lv_c h, u_lv_c h]
theorem u_ng_c {I I' : z_MI} {J J' : z_MJ} (h : z_cg I J I' J') (t k : Nat) : u_ng I' t k = u_ng I t k := by unfold u_ng; rw [u_lv_c h, u_lv_c h]
theorem z_up_ri (I : z_MI) (a i : Nat) (f : Nat → Int32) (v : Int32) : z_up (z_ri I a f) a i v = z_ri I a (fun k => if k = i then v else f k) := by
  funext b j
  unfold z_up z_ri
  by_cases hb : b = a
  · by_cases hj : j = i
    · rw [if_pos ⟨hb, hj⟩, if_pos hb]; exact (if_pos hj).symm
    · rw [if_neg (fun e => hj e.2), if_pos hb, if_pos hb]; exact (if_neg hj).symm
  · rw [if_neg (fun e => hb e.1), if_neg hb, if_neg hb]
section
variable {S : z_SH} {I : z_MI} {J : z_MJ} {P : z_MP} {K : Nat → Bool} {n : Nat × Nat}
theorem z_B.lv (B : z_B S I J P K n.1) {t k : Nat} (ht : t < 4) (hk : k < 17) : I 101 (17 * t + k) = z_n (u_lv I t k) ∧ u_lv I t k ≤ 1000 := by
  obtain ⟨x, h1, h2⟩ := B.2.2.2.1.2.2.2.2.2.1 (17 * t + k) (by omega)
  have : u_lv I t k = x := by unfold u_lv; rw [h1, z_n_nat (by omega)]
  rw [this]; exact ⟨h1, h2⟩
theorem u_at_le (B : z_B S I J P K n.1) {t : Nat} (ht : t < 4) (a : Nat) : u_at I t a ≤ 5000 := by
  unfold u_at
  split
  · have h1 := (B.lv ht (show a / 5 < 17 by omega)).2
    have h2 := (B.lv ht (show a / 5 + 1 < 17 by omega)).2
    have m1 : u_lv I t (a / 5) * (5 - a % 5) ≤ 1000 * (5 - a % 5) := Nat.mul_le_mul_right _ h1
    have m2 : u_lv I t (a / 5 + 1) * (a % 5) ≤ 1000 * (a % 5) := Nat.mul_le_mul_right _ h2
    omega
  · have h1 := (B.lv ht (show 16 < 17 by omega)).2
    omega
theorem u_ng_le (B : z_B S I J P K n.1) {t k : Nat} (ht : t < 4) (hk : k < 17) : u_ng I t k ≤ 2000 := by
  unfold u_ng
  have h1 := (B.lv ht hk).2
  split
  · have h2 := (B.lv ht (show k + 1 < 17 by omega)).2
    omega
  · omega
/-- the reference's lives in any heap that shows the same rows -/
theorem z_B.lvc (B : z_B S I J P K n.1) {I1 : z_MI} {J1 : z_MJ} (c : z_cg I J I1 J1) {t k : Nat} (ht : t < 4) (hk : k < 17) : I1 101 (17 * t + k) = z_n (u_lv I t k) := by
  rw [c.i _ rfl]; exact (B.lv ht hk).1
theorem z_m5 {a : Nat} (h : a < 2147483648) : z_n a - z_n (a / 5 * 5) = z_n (a % 5) := by
  rw [z_n_sub (by omega)]; congr 1; omega
set_option maxRecDepth 100000 in
set_option maxHeartbeats 4000000 in
theorem M_atAge (B : z_B S I J P K n.1) {S' : z_SH} {I1 : z_MI} {J1 : z_MJ} {P' : z_MP} {n' : Nat × Nat} (hS' : z_St S') (hP' : z_Pt P') (c : z_cg I J I1 J1) {t a : Nat} (ht : t < 4) (ha : a < 100000) : f_Mo_atAge 83 (z_n t) (z_n a) (z_h S' I1 J1 P' n') = some (z_n (u_at I t a), z_h S' I1 J1 P' n') := by
  unfold u_at
  by_cases h : a < 80
  · have l1 := B.lvc c ht (show a / 5 < 17 by omega)
    have l2 := B.lvc c ht (show a / 5 + 1 < 17 by omega)
    have e5 : a - a / 5 * 5 = a % 5 := by omega
    simp (disch := omega) only [f_Mo_atAge, z_Mr hS' hP', h, z_div, Nat.add_assoc, l1, l2, e5, z_n_sub, or_true, true_or, or_false, false_or, z_b_T, z_b_F, Bool.false_eq_true, Classical.not_not, decide_eq_true_eq, z_sq, Option.bind_some, z_lits, z_n_add, z_n_mul, z_lt, z_le, z_eq, z_ne1, z_1ne, z_lt1, z_1lt, z_ltT, z_ltF, z_leT, z_leF, z_eqF, z_b_0, z_b_1, ↓reduceIte, eq_self, not_true_eq_false, not_false_eq_true, and_true, true_and, and_false, false_and, Nat.add_zero, Nat.zero_add]
  · have l1 := B.lvc c ht (show 16 < 17 by omega)
    simp (disch := omega) only [f_Mo_atAge, z_Mr hS' hP', h, l1, or_true, true_or, or_false, false_or, z_b_T, z_b_F, Bool.false_eq_true, Classical.not_not, decide_eq_true_eq, z_sq, Option.bind_some, z_lits, z_n_add, z_n_mul, z_lt, z_le, z_eq, z_ne1, z_1ne, z_lt1, z_1lt, z_ltT, z_ltF, z_leT, z_leF, z_eqF, z_b_0, z_b_1, ↓reduceIte, eq_self, not_true_eq_false, not_false_eq_true, and_true, true_and, and_false, false_and, Nat.add_zero, Nat.zero_add]
set_option maxRecDepth 100000 in
set_option maxHeartbeats 4000000 in
theorem C_fifths (B : z_B S I J P K n.1) {t a : Nat} (ht : t < 4) (ha : a < 100000) : f_Li_fifthsAt 27 (z_n t) (z_n a) (z_h S I J P n) = some (z_n (u_at I t a), z_h S I J P n) := by
  have hS := B.qS
  have hP := B.qP
  have key : ∀ t, t < 4 → q_gr (q_ga (z_h S I J P n) 28 28 (z_n t)) = some (29 + t) ∧ ∀ k, k < 17 → q_gi (q_ga (z_h S I J P n) 20 (29 + t) (z_n k)) = some (z_n (u_lv I t k)) := by
    intro t ht
    have e : ∀ k, k < 17 → I (29 + t) k = z_n (u_lv I t k) := fun k hk => by rw [B.qC.2.2.1 t k ht hk]; exact (B.lv ht hk).1
    have : t = 0 ∨ t = 1 ∨ t = 2 ∨ t = 3 := by omega
    rcases this with rfl | rfl | rfl | rfl
    · exact ⟨by simp (disch := omega) only [z_Lir hS hP, or_true, true_or, or_false, false_or, z_b_T, z_b_F, Bool.false_eq_true, Classical.not_not, decide_eq_true_eq, z_sq, Option.bind_some, z_lits, z_n_add, z_n_mul, z_lt, z_le, z_eq, z_ne1, z_1ne, z_lt1, z_1lt, z_ltT, z_ltF, z_leT, z_leF, z_eqF, z_b_0, z_b_1, ↓reduceIte, eq_self, not_true_eq_false, not_false_eq_true, and_true, true_and, and_false, false_and, Nat.add_zero, Nat.zero_add], fun k hk => by have := e k hk; simp (disch := omega) only [z_Lir hS hP, this, or_true, true_or, or_false, false_or, z_b_T, z_b_F, Bool.false_eq_true, Classical.not_not, decide_eq_true_eq, z_sq, Option.bind_some, z_lits, z_n_add, z_n_mul, z_lt, z_le, z_eq, z_ne1, z_1ne, z_lt1, z_1lt, z_ltT, z_ltF, z_leT, z_leF, z_eqF, z_b_0, z_b_1, ↓reduceIte, eq_self, not_true_eq_false, not_false_eq_true, and_true, true_and, and_false, false_and, Nat.add_zero, Nat.zero_add]⟩
    · exact ⟨by simp (disch := omega) only [z_Lir hS hP, or_true, true_or, or_false, false_or, z_b_T, z_b_F, Bool.false_eq_true, Classical.not_not, decide_eq_true_eq, z_sq, Option.bind_some, z_lits, z_n_add, z_n_mul, z_lt, z_le, z_eq, z_ne1, z_1ne, z_lt1, z_1lt, z_ltT, z_ltF, z_leT, z_leF, z_eqF, z_b_0, z_b_1, ↓reduceIte, eq_self, not_true_eq_false, not_false_eq_true, and_true, true_and, and_false, false_and, Nat.add_zero, Nat.zero_add], fun k hk => by have := e k hk; simp (disch := omega) only [z_Lir hS hP, this, or_true, true_or, or_false, false_or, z_b_T, z_b_F, Bool.false_eq_true, Classical.not_not, decide_eq_true_eq, z_sq, Option.bind_some, z_lits, z_n_add, z_n_mul, z_lt, z_le, z_eq, z_ne1, z_1ne, z_lt1, z_1lt, z_ltT, z_ltF, z_leT, z_leF, z_eqF, z_b_0, z_b_1, ↓reduceIte, eq_self, not_true_eq_false, not_false_eq_true, and_true, true_and, and_false, false_and, Nat.add_zero, Nat.zero_add]⟩
    · exact ⟨by simp (disch := omega) only [z_Lir hS hP, or_true, true_or, or_false, false_or, z_b_T, z_b_F, Bool.false_eq_true, Classical.not_not, decide_eq_true_eq, z_sq, Option.bind_some, z_lits, z_n_add, z_n_mul, z_lt, z_le, z_eq, z_ne1, z_1ne, z_lt1, z_1lt, z_ltT, z_ltF, z_leT, z_leF, z_eqF, z_b_0, z_b_1, ↓reduceIte, eq_self, not_true_eq_false, not_false_eq_true, and_true, true_and, and_false, false_and, Nat.add_zero, Nat.zero_add], fun k hk => by have := e k hk; simp (disch := omega) only [z_Lir hS hP, this, or_true, true_or, or_false, false_or, z_b_T, z_b_F, Bool.false_eq_true, Classical.not_not, decide_eq_true_eq, z_sq, Option.bind_some, z_lits, z_n_add, z_n_mul, z_lt, z_le, z_eq, z_ne1, z_1ne, z_lt1, z_1lt, z_ltT, z_ltF, z_leT, z_leF, z_eqF, z_b_0, z_b_1, ↓reduceIte, eq_self, not_true_eq_false, not_false_eq_true, and_true, true_and, and_false, false_and, Nat.add_zero, Nat.zero_add]⟩
    · exact ⟨by simp (disch := omega) only [z_Lir hS hP, or_true, true_or, or_false, false_or, z_b_T, z_b_F, Bool.false_eq_true, Classical.not_not, decide_eq_true_eq, z_sq, Option.bind_some, z_lits, z_n_add, z_n_mul, z_lt, z_le, z_eq, z_ne1, z_1ne, z_lt1, z_1lt, z_ltT, z_ltF, z_leT, z_leF, z_eqF, z_b_0, z_b_1, ↓reduceIte, eq_self, not_true_eq_false, not_false_eq_true, and_true, true_and, and_false, false_and, Nat.add_zero, Nat.zero_add], fun k hk => by have := e k hk; simp (disch := omega) only [z_Lir hS hP, this, or_true, true_or, or_false, false_or, z_b_T, z_b_F, Bool.false_eq_true, Classical.not_not, decide_eq_true_eq, z_sq, Option.bind_some, z_lits, z_n_add, z_n_mul, z_lt, z_le, z_eq, z_ne1, z_1ne, z_lt1, z_1lt, z_ltT, z_ltF, z_leT, z_leF, z_eqF, z_b_0, z_b_1, ↓reduceIte, eq_self, not_true_eq_false, not_false_eq_true, and_true, true_and, and_false, false_and, Nat.add_zero, Nat.zero_add]⟩
  obtain ⟨k1, k2⟩ := key t ht
  have e27 : q_gr (q_gf (z_h S I J P n) 4 27 0) = some 28 := z_gr (s_27 hS) rfl (p_27_0 hP)
  unfold u_at
  by_cases h : a < 80
  · have l1 := k2 (a / 5) (by omega)
    have l2 := k2 (a / 5 + 1) (by omega)
    have e5 : a - a / 5 * 5 = a % 5 := by omega
    simp (disch := omega) only [f_Li_fifthsAt, h, z_div, e27, k1, l1, l2, e5, z_n_sub, or_true, true_or, or_false, false_or, z_b_T, z_b_F, Bool.false_eq_true, Classical.not_not, decide_eq_true_eq, z_sq, Option.bind_some, z_lits, z_n_add, z_n_mul, z_lt, z_le, z_eq, z_ne1, z_1ne, z_lt1, z_1lt, z_ltT, z_ltF, z_leT, z_leF, z_eqF, z_b_0, z_b_1, ↓reduceIte, eq_self, not_true_eq_false, not_false_eq_true, and_true, true_and, and_false, false_and, Nat.add_zero, Nat.zero_add]
  · have l1 := k2 16 (by omega)
    simp (disch := omega) only [f_Li_fifthsAt, h, z_div, e27, k1, l1, Nat.mul_comm, or_true, true_or, or_false, false_or, z_b_T, z_b_F, Bool.false_eq_true, Classical.not_not, decide_eq_true_eq, z_sq, Option.bind_some, z_lits, z_n_add, z_n_mul, z_lt, z_le, z_eq, z_ne1, z_1ne, z_lt1, z_1lt, z_ltT, z_ltF, z_leT, z_leF, z_eqF, z_b_0, z_b_1, ↓reduceIte, eq_self, not_true_eq_false, not_false_eq_true, and_true, true_and, and_false, false_and, Nat.add_zero, Nat.zero_add]
set_option maxRecDepth 100000 in
set_option maxHeartbeats 4000000 in
theorem C_living (B : z_B S I J P K n.1) {t k : Nat} (ht : t < 4) (hk : k < 17) : f_Li_living 27 (z_n t) (z_n k) (z_h S I J P n) = some (z_n (u_ng I t k), z_h S I J P n) := by
  have hS := B.qS
  have hP := B.qP
  have key : q_gr (q_ga (z_h S I J P n) 28 28 (z_n t)) = some (29 + t) ∧ ∀ k, k < 17 → q_gi (q_ga (z_h S I J P n) 20 (29 + t) (z_n k)) = some (z_n (u_lv I t k)) := by
    have e : ∀ k, k < 17 → I (29 + t) k = z_n (u_lv I t k) := fun k hk => by rw [B.qC.2.2.1 t k ht hk]; exact (B.lv ht hk).1
    have : t = 0 ∨ t = 1 ∨ t = 2 ∨ t = 3 := by omega
    rcases this with rfl | rfl | rfl | rfl
    · exact ⟨by simp (disch := omega) only [z_Lir hS hP, or_true, true_or, or_false, false_or, z_b_T, z_b_F, Bool.false_eq_true, Classical.not_not, decide_eq_true_eq, z_sq, Option.bind_some, z_lits, z_n_add, z_n_mul, z_lt, z_le, z_eq, z_ne1, z_1ne, z_lt1, z_1lt, z_ltT, z_ltF, z_leT, z_leF, z_eqF, z_b_0, z_b_1, ↓reduceIte, eq_self, not_true_eq_false, not_false_eq_true, and_true, true_and, and_false, false_and, Nat.add_zero, Nat.zero_add], fun k hk => by have := e k hk; simp (disch := omega) only [z_Lir hS hP, this, or_true, true_or, or_false, false_or, z_b_T, z_b_F, Bool.false_eq_true, Classical.not_not, decide_eq_true_eq, z_sq, Option.bind_some, z_lits, z_n_add, z_n_mul, z_lt, z_le, z_eq, z_ne1, z_1ne, z_lt1, z_1lt, z_ltT, z_ltF, z_leT, z_leF, z_eqF, z_b_0, z_b_1, ↓reduceIte, eq_self, not_true_eq_false, not_false_eq_true, and_true, true_and, and_false, false_and, Nat.add_zero, Nat.zero_add]⟩
    · exact ⟨by simp (disch := omega) only [z_Lir hS hP, or_true, true_or, or_false, false_or, z_b_T, z_b_F, Bool.false_eq_true, Classical.not_not, decide_eq_true_eq, z_sq, Option.bind_some, z_lits, z_n_add, z_n_mul, z_lt, z_le, z_eq, z_ne1, z_1ne, z_lt1, z_1lt, z_ltT, z_ltF, z_leT, z_leF, z_eqF, z_b_0, z_b_1, ↓reduceIte, eq_self, not_true_eq_false, not_false_eq_true, and_true, true_and, and_false, false_and, Nat.add_zero, Nat.zero_add], fun k hk => by have := e k hk; simp (disch := omega) only [z_Lir hS hP, this, or_true, true_or, or_false, false_or, z_b_T, z_b_F, Bool.false_eq_true, Classical.not_not, decide_eq_true_eq, z_sq, Option.bind_some, z_lits, z_n_add, z_n_mul, z_lt, z_le, z_eq, z_ne1, z_1ne, z_lt1, z_1lt, z_ltT, z_ltF, z_leT, z_leF, z_eqF, z_b_0, z_b_1, ↓reduceIte, eq_self, not_true_eq_false, not_false_eq_true, and_true, true_and, and_false, false_and, Nat.add_zero, Nat.zero_add]⟩
    · exact ⟨by simp (disch := omega) only [z_Lir hS hP, or_true, true_or, or_false, false_or, z_b_T, z_b_F, Bool.false_eq_true, Classical.not_not, decide_eq_true_eq, z_sq, Option.bind_some, z_lits, z_n_add, z_n_mul, z_lt, z_le, z_eq, z_ne1, z_1ne, z_lt1, z_1lt, z_ltT, z_ltF, z_leT, z_leF, z_eqF, z_b_0, z_b_1, ↓reduceIte, eq_self, not_true_eq_false, not_false_eq_true, and_true, true_and, and_false, false_and, Nat.add_zero, Nat.zero_add], fun k hk => by have := e k hk; simp (disch := omega) only [z_Lir hS hP, this, or_true, true_or, or_false, false_or, z_b_T, z_b_F, Bool.false_eq_true, Classical.not_not, decide_eq_true_eq, z_sq, Option.bind_some, z_lits, z_n_add, z_n_mul, z_lt, z_le, z_eq, z_ne1, z_1ne, z_lt1, z_1lt, z_ltT, z_ltF, z_leT, z_leF, z_eqF, z_b_0, z_b_1, ↓reduceIte, eq_self, not_true_eq_false, not_false_eq_true, and_true, true_and, and_false, false_and, Nat.add_zero, Nat.zero_add]⟩
    · exact ⟨by simp (disch := omega) only [z_Lir hS hP, or_true, true_or, or_false, false_or, z_b_T, z_b_F, Bool.false_eq_true, Classical.not_not, decide_eq_true_eq, z_sq, Option.bind_some, z_lits, z_n_add, z_n_mul, z_lt, z_le, z_eq, z_ne1, z_1ne, z_lt1, z_1lt, z_ltT, z_ltF, z_leT, z_leF, z_eqF, z_b_0, z_b_1, ↓reduceIte, eq_self, not_true_eq_false, not_false_eq_true, and_true, true_and, and_false, false_and, Nat.add_zero, Nat.zero_add], fun k hk => by have := e k hk; simp (disch := omega) only [z_Lir hS hP, this, or_true, true_or, or_false, false_or, z_b_T, z_b_F, Bool.false_eq_true, Classical.not_not, decide_eq_true_eq, z_sq, Option.bind_some, z_lits, z_n_add, z_n_mul, z_lt, z_le, z_eq, z_ne1, z_1ne, z_lt1, z_1lt, z_ltT, z_ltF, z_leT, z_leF, z_eqF, z_b_0, z_b_1, ↓reduceIte, eq_self, not_true_eq_false, not_false_eq_true, and_true, true_and, and_false, false_and, Nat.add_zero, Nat.zero_add]⟩
  obtain ⟨k1, k2⟩ := key
  have e27 : q_gr (q_gf (z_h S I J P n) 4 27 0) = some 28 := z_gr (s_27 hS) rfl (p_27_0 hP)
  unfold u_ng
  by_cases h : k < 16
  · have l1 := k2 k (by omega)
    have l2 := k2 (k + 1) (by omega)
    simp (disch := omega) only [f_Li_living, h, e27, k1, l1, l2, or_true, true_or, or_false, false_or, z_b_T, z_b_F, Bool.false_eq_true, Classical.not_not, decide_eq_true_eq, z_sq, Option.bind_some, z_lits, z_n_add, z_n_mul, z_lt, z_le, z_eq, z_ne1, z_1ne, z_lt1, z_1lt, z_ltT, z_ltF, z_leT, z_leF, z_eqF, z_b_0, z_b_1, ↓reduceIte, eq_self, not_true_eq_false, not_false_eq_true, and_true, true_and, and_false, false_and, Nat.add_zero, Nat.zero_add]
  · have : k = 16 := by omega
    subst this
    have l1 := k2 16 (by omega)
    simp (disch := omega) only [f_Li_living, e27, k1, l1, or_true, true_or, or_false, false_or, z_b_T, z_b_F, Bool.false_eq_true, Classical.not_not, decide_eq_true_eq, z_sq, Option.bind_some, z_lits, z_n_add, z_n_mul, z_lt, z_le, z_eq, z_ne1, z_1ne, z_lt1, z_1lt, z_ltT, z_ltF, z_leT, z_leF, z_eqF, z_b_0, z_b_1, ↓reduceIte, eq_self, not_true_eq_false, not_false_eq_true, and_true, true_and, and_false, false_and, Nat.add_zero, Nat.zero_add]
set_option maxRecDepth 100000 in
set_option maxHeartbeats 4000000 in
theorem M_living (B : z_B S I J P K n.1) {S' : z_SH} {I1 : z_MI} {J1 : z_MJ} {P' : z_MP} {n' : Nat × Nat} (hS' : z_St S') (hP' : z_Pt P') (c : z_cg I J I1 J1) {t k : Nat} (ht : t < 4) (hk : k < 17) : f_Mo_living 83 (z_n t) (z_n k) (z_h S' I1 J1 P' n') = some (z_n (u_ng I t k), z_h S' I1 J1 P' n') := by
  have l1 := B.lvc c ht hk
  unfold u_ng
  by_cases h : k < 16
  · have l2 := B.lvc c ht (show k + 1 < 17 by omega)
    simp (disch := omega) only [f_Mo_living, z_Mr hS' hP', h, l1, l2, Nat.add_assoc, or_true, true_or, or_false, false_or, z_b_T, z_b_F, Bool.false_eq_true, Classical.not_not, decide_eq_true_eq, z_sq, Option.bind_some, z_lits, z_n_add, z_n_mul, z_lt, z_le, z_eq, z_ne1, z_1ne, z_lt1, z_1lt, z_ltT, z_ltF, z_leT, z_leF, z_eqF, z_b_0, z_b_1, ↓reduceIte, eq_self, not_true_eq_false, not_false_eq_true, and_true, true_and, and_false, false_and, Nat.add_zero, Nat.zero_add]
  · simp (disch := omega) only [f_Mo_living, z_Mr hS' hP', h, l1, or_true, true_or, or_false, false_or, z_b_T, z_b_F, Bool.false_eq_true, Classical.not_not, decide_eq_true_eq, z_sq, Option.bind_some, z_lits, z_n_add, z_n_mul, z_lt, z_le, z_eq, z_ne1, z_1ne, z_lt1, z_1lt, z_ltT, z_ltF, z_leT, z_leF, z_eqF, z_b_0, z_b_1, ↓reduceIte, eq_self, not_true_eq_false, not_false_eq_true, and_true, true_and, and_false, false_and, Nat.add_zero, Nat.zero_add]
theorem C_isTable {t : Nat} {σ : q_H} (ht : t ≤ 3) : f_Rs_isTable (z_n t) σ = some (z_n 1, σ) := by
  simp (disch := omega) only [f_Rs_isTable, C_in, or_true, true_or, or_false, false_or, z_b_T, z_b_F, Bool.false_eq_true, Classical.not_not, decide_eq_true_eq, z_sq, Option.bind_some, z_lits, z_n_add, z_n_mul, z_lt, z_le, z_eq, z_ne1, z_1ne, z_lt1, z_1lt, z_ltT, z_ltF, z_leT, z_leF, z_eqF, z_b_0, z_b_1, ↓reduceIte, eq_self, not_true_eq_false, not_false_eq_true, and_true, true_and, and_false, false_and, Nat.add_zero, Nat.zero_add]
theorem C_isTable_o {t : Int32} {σ : q_H} (ht : z_o t 3) : f_Rs_isTable t σ = some (z_n 0, σ) := by
  simp (disch := omega) only [f_Rs_isTable, C_out ht, or_true, true_or, or_false, false_or, z_b_T, z_b_F, Bool.false_eq_true, Classical.not_not, decide_eq_true_eq, z_sq, Option.bind_some, z_lits, z_n_add, z_n_mul, z_lt, z_le, z_eq, z_ne1, z_1ne, z_lt1, z_1lt, z_ltT, z_ltF, z_leT, z_leF, z_eqF, z_b_0, z_b_1, ↓reduceIte, eq_self, not_true_eq_false, not_false_eq_true, and_true, true_and, and_false, false_and, Nat.add_zero, Nat.zero_add]
theorem C_lives (hS : z_St S) (hP : z_Pt P) : q_gr (q_gf (z_h S I J P n) 0 8 7) = some 27 ∧ q_ob (z_h S I J P n) 4 27 = some (z_vs I J P 27 [2, 2, 0]) := ⟨z_gr (s_8 hS) rfl (p_8_7 hP), z_ob (s_27 hS)⟩
set_option maxRecDepth 100000 in
set_option maxHeartbeats 4000000 in
theorem X_at (B : z_B S I J P K n.1) (t a : Int32) : z_pr (f_Rs_at 8 t a) (f_Mo_at 83 t a) S I J P K n := by
  have hS := B.qS
  have hP := B.qP
  have m : z_mf I J (z_up I 83 0 (z_n 0)) J := z_mf.up rfl
  rcases z_in t 3 (by omega) with ⟨x, hx, rfl⟩ | ho
  · rcases z_in a 200 (by omega) with ⟨y, hy, rfl⟩ | hao
    · refine z_pr.same (r := z_n (u_at I x y)) ?_ ?_ m
      · simp (disch := omega) only [f_Rs_at, C_isTable hx, C_in, C_lives hS hP, C_fifths B (t := x) (a := y) (by omega) (by omega), or_true, true_or, or_false, false_or, z_b_T, z_b_F, Bool.false_eq_true, Classical.not_not, decide_eq_true_eq, z_sq, Option.bind_some, z_lits, z_n_add, z_n_mul, z_lt, z_le, z_eq, z_ne1, z_1ne, z_lt1, z_1lt, z_ltT, z_ltF, z_leT, z_leF, z_eqF, z_b_0, z_b_1, ↓reduceIte, eq_self, not_true_eq_false, not_false_eq_true, and_true, true_and, and_false, false_and, Nat.add_zero, Nat.zero_add]
      · simp (disch := omega) only [f_Mo_at, M_thr hS, M_isTable hx, M_win, z_ob (s_83 hS), M_atAge B hS hP m.cg (n' := n) (t := x) (a := y) (by omega) (by omega), or_true, true_or, or_false, false_or, z_b_T, z_b_F, Bool.false_eq_true, Classical.not_not, decide_eq_true_eq, z_sq, Option.bind_some, z_lits, z_n_add, z_n_mul, z_lt, z_le, z_eq, z_ne1, z_1ne, z_lt1, z_1lt, z_ltT, z_ltF, z_leT, z_leF, z_eqF, z_b_0, z_b_1, ↓reduceIte, eq_self, not_true_eq_false, not_false_eq_true, and_true, true_and, and_false, false_and, Nat.add_zero, Nat.zero_add]
    · refine z_pr.same (r := -z_n 1) ?_ ?_ m
      · simp (disch := omega) only [f_Rs_at, C_isTable hx, C_out hao, or_true, true_or, or_false, false_or, z_b_T, z_b_F, Bool.false_eq_true, Classical.not_not, decide_eq_true_eq, z_sq, Option.bind_some, z_lits, z_n_add, z_n_mul, z_lt, z_le, z_eq, z_ne1, z_1ne, z_lt1, z_1lt, z_ltT, z_ltF, z_leT, z_leF, z_eqF, z_b_0, z_b_1, ↓reduceIte, eq_self, not_true_eq_false, not_false_eq_true, and_true, true_and, and_false, false_and, Nat.add_zero, Nat.zero_add]
      · simp (disch := omega) only [f_Mo_at, M_thr hS, M_isTable hx, M_wout hao, or_true, true_or, or_false, false_or, z_b_T, z_b_F, Bool.false_eq_true, Classical.not_not, decide_eq_true_eq, z_sq, Option.bind_some, z_lits, z_n_add, z_n_mul, z_lt, z_le, z_eq, z_ne1, z_1ne, z_lt1, z_1lt, z_ltT, z_ltF, z_leT, z_leF, z_eqF, z_b_0, z_b_1, ↓reduceIte, eq_self, not_true_eq_false, not_false_eq_true, and_true, true_and, and_false, false_and, Nat.add_zero, Nat.zero_add]
  · refine z_pr.same (r := -z_n 1) ?_ ?_ m
    · simp (disch := omega) only [f_Rs_at, C_isTable_o ho, or_true, true_or, or_false, false_or, z_b_T, z_b_F, Bool.false_eq_true, Classical.not_not, decide_eq_true_eq, z_sq, Option.bind_some, z_lits, z_n_add, z_n_mul, z_lt, z_le, z_eq, z_ne1, z_1ne, z_lt1, z_1lt, z_ltT, z_ltF, z_leT, z_leF, z_eqF, z_b_0, z_b_1, ↓reduceIte, eq_self, not_true_eq_false, not_false_eq_true, and_true, true_and, and_false, false_and, Nat.add_zero, Nat.zero_add]
    · simp (disch := omega) only [f_Mo_at, M_thr hS, M_isTable_o ho, or_true, true_or, or_false, false_or, z_b_T, z_b_F, Bool.false_eq_true, Classical.not_not, decide_eq_true_eq, z_sq, Option.bind_some, z_lits, z_n_add, z_n_mul, z_lt, z_le, z_eq, z_ne1, z_1ne, z_lt1, z_1lt, z_ltT, z_ltF, z_leT, z_leF, z_eqF, z_b_0, z_b_1, ↓reduceIte, eq_self, not_true_eq_false, not_false_eq_true, and_true, true_and, and_false, false_and, Nat.add_zero, Nat.zero_add]
/-- sums from a place on -/
def u_sf (a N : Nat) (f : Nat → Nat) : Nat := z_sum (N - a) fun i => f (a + i)
set_option maxRecDepth 100000 in
set_option maxHeartbeats 4000000 in
theorem C_between (B : z_B S I J P K n.1) {t a N : Nat} (ht : t < 4) (hN : N ≤ 17) (ha : a ≤ N) : f_Li_livingBetween 27 (z_n t) (z_n a) (z_n N) (z_h S I J P n) = some (z_z (u_sf a N (u_ng I t) : Nat), z_h S I J P n) := by
  have h := z_run (fun m i => f_Li_livingBetween_L6 27 (z_n t) (z_n N) m (z_z (z_sum i (fun i => u_ng I t (a + i)) : Nat)) (z_n (a + i)) (z_h S I J P n)) (N - a) (r := some (z_z (u_sf a N (u_ng I t) : Nat), z_h S I J P n)) (by omega)
    (by
      intro m i hi
      have hl := C_living B ht (show a + i < 17 by omega)
      have hb := u_ng_le B ht (show a + i < 17 by omega)
      simp (disch := omega) only [f_Li_livingBetween_L6, C_lives B.qS B.qP, hl, z_cast, z_z_add, z_sum_s, Int.natCast_add, Nat.add_assoc, or_true, true_or, or_false, false_or, z_b_T, z_b_F, Bool.false_eq_true, Classical.not_not, decide_eq_true_eq, z_sq, Option.bind_some, z_lits, z_n_add, z_n_mul, z_lt, z_le, z_eq, z_ne1, z_1ne, z_lt1, z_1lt, z_ltT, z_ltF, z_leT, z_leF, z_eqF, z_b_0, z_b_1, ↓reduceIte, eq_self, not_true_eq_false, not_false_eq_true, and_true, true_and, and_false, false_and, Nat.add_zero, Nat.zero_add])
    (by
      intro m
      simp (disch := omega) only [f_Li_livingBetween_L6, or_true, true_or, or_false, false_or, z_b_T, z_b_F, Bool.false_eq_true, Classical.not_not, decide_eq_true_eq, z_sq, Option.bind_some, z_lits, z_n_add, z_n_mul, z_lt, z_le, z_eq, z_ne1, z_1ne, z_lt1, z_1lt, z_ltT, z_ltF, z_leT, z_leF, z_eqF, z_b_0, z_b_1, ↓reduceIte, eq_self, not_true_eq_false, not_false_eq_true, and_true, true_and, and_false, false_and, Nat.add_zero, Nat.zero_add]
      rfl)
  simp only [z_sum_0, Nat.add_zero] at h
  unfold f_Li_livingBetween
  show q_sq (f_Li_livingBetween_L6 27 (z_n t) (z_n N) q_FU (z_z ((0 : Nat) : Int)) (z_n a) (z_h S I J P n)) _ = _
  rw [h, z_sq]
set_option maxRecDepth 100000 in
set_option maxHeartbeats 4000000 in
theorem X_life (B : z_B S I J P K n.1) (t a d : Int32) : z_pr (f_Rs_life 8 t a d) (f_Mo_life 83 t a d) S I J P K n := by
  have hS := B.qS
  have hP := B.qP
  have hn := B.qn
  have m : z_mf I J (z_up I 83 0 (z_n 0)) J := z_mf.up rfl
  rcases z_in t 3 (by omega) with ⟨x, hx, rfl⟩ | ho
  · rcases z_in a 17 (by omega) with ⟨y, hy, rfl⟩ | hao
    · have bt := C_between (n := n) B (t := x) (a := 0) (N := y) (by omega) hy (by omega)
      have hle : z_sum y (u_ng I x) ≤ 34000 := Nat.le_trans (z_sum_le _ 2000 y (fun i hi => u_ng_le B (by omega) (by omega))) (by omega)
      have e0 : u_sf 0 y (u_ng I x) = z_sum y (u_ng I x) := by
        unfold u_sf
        rw [Nat.sub_zero]
        exact z_sum_eq (fun i _ => by rw [Nat.zero_add])
      rw [e0] at bt
      have e5 : (5 : Int64) * z_z (z_sum y (u_ng I x) : Nat) = z_z ((5 * z_sum y (u_ng I x) : Nat)) := by
        have : (5 : Int64) = z_z 5 := rfl
        rw [this, z_z_mul]; rfl
      obtain ⟨r, S2, I2, J2, P2, n2, k1, k2, k3, k4⟩ := C_ratio (S := S) (I := I) (J := J) (P := P) (n := n) (A := (5 * z_sum y (u_ng I x) : Nat)) (b := 2000) (what := d) (by omega) (by omega) (by omega)
      have k1' : f_Ra_of (z_z ((5 * z_sum y (u_ng I x) : Nat))) (2000 : Int64) (z_h S I J P n) = some (r, z_h S2 I2 J2 P2 n2) := k1
      have m' : z_mf I2 J2 (z_up I2 83 0 (z_n 0)) J2 := z_mf.up rfl
      have c2 := (k3.cg (K := K) z_keep0 B.2.2.1.2 hn).trans m'.cg
      have hS2 := hS.mono k3 hn
      have hP2 := hP.mono k3 hn
      refine ⟨z_fr (5 * z_sum y (u_ng I x) : Nat) 2000 d, S2, I2, J2, P2, n2, _, _, ?_, ?_, k3.x0, ⟨by omega, by omega, by omega⟩, m'⟩
      · simp (disch := omega) only [f_Rs_life, C_isTable hx, C_in, C_lives hS hP, bt, e5, k1', k2, or_true, true_or, or_false, false_or, z_b_T, z_b_F, Bool.false_eq_true, Classical.not_not, decide_eq_true_eq, z_sq, Option.bind_some, z_lits, z_n_add, z_n_mul, z_lt, z_le, z_eq, z_ne1, z_1ne, z_lt1, z_1lt, z_ltT, z_ltF, z_leT, z_leF, z_eqF, z_b_0, z_b_1, ↓reduceIte, eq_self, not_true_eq_false, not_false_eq_true, and_true, true_and, and_false, false_and, Nat.add_zero, Nat.zero_add]
      · rcases z_d1 (d := d) with hd | hd
        · have hm := z_run (fun m i => f_Mo_life_L39 83 (z_n x) (z_n y) d m (z_n (5 * z_sum i (u_ng I x))) (z_n i) (z_h S2 (z_up I2 83 0 (z_n 0)) J2 P2 n2)) y (r := some (z_n (5 * z_sum y (u_ng I x)), z_h S2 (z_up I2 83 0 (z_n 0)) J2 P2 n2)) (by omega)
            (by
              intro m i hi
              have hl := M_living B hS2 hP2 c2 (n' := n2) (t := x) (k := i) (by omega) (by omega)
              simp (disch := omega) only [f_Mo_life_L39, z_ob (s_83 hS2), hl, z_sum_s, Nat.mul_add, or_true, true_or, or_false, false_or, z_b_T, z_b_F, Bool.false_eq_true, Classical.not_not, decide_eq_true_eq, z_sq, Option.bind_some, z_lits, z_n_add, z_n_mul, z_lt, z_le, z_eq, z_ne1, z_1ne, z_lt1, z_1lt, z_ltT, z_ltF, z_leT, z_leF, z_eqF, z_b_0, z_b_1, ↓reduceIte, eq_self, not_true_eq_false, not_false_eq_true, and_true, true_and, and_false, false_and, Nat.add_zero, Nat.zero_add])
            (by
              intro m
              simp (disch := omega) only [f_Mo_life_L39, or_true, true_or, or_false, false_or, z_b_T, z_b_F, Bool.false_eq_true, Classical.not_not, decide_eq_true_eq, z_sq, Option.bind_some, z_lits, z_n_add, z_n_mul, z_lt, z_le, z_eq, z_ne1, z_1ne, z_lt1, z_1lt, z_ltT, z_ltF, z_leT, z_leF, z_eqF, z_b_0, z_b_1, ↓reduceIte, eq_self, not_true_eq_false, not_false_eq_true, and_true, true_and, and_false, false_and, Nat.add_zero, Nat.zero_add])
          simp only [z_sum_0, Nat.mul_zero] at hm
          have e := M_low (σ := z_h S2 (z_up I2 83 0 (z_n 0)) J2 P2 n2) (A := (5 * z_sum y (u_ng I x) : Nat)) (b := 2000) (what := d) (by omega) (by omega) (by omega) hd
          have e' : (q_sq (f_Mo_lowest (z_z ((5 * z_sum y (u_ng I x) : Nat))) (2000 : Int64) d (z_h S2 (z_up I2 83 0 (z_n 0)) J2 P2 n2)) fun x σ => some (x.toInt32, σ)) = some (z_fr (5 * z_sum y (u_ng I x) : Nat) 2000 d, z_h S2 (z_up I2 83 0 (z_n 0)) J2 P2 n2) := e
          simp (disch := omega) only [f_Mo_life, M_thr hS2, M_isTable hx, M_win, M_wi1 hd, hm, z_cast, e', or_true, true_or, or_false, false_or, z_b_T, z_b_F, Bool.false_eq_true, Classical.not_not, decide_eq_true_eq, z_sq, Option.bind_some, z_lits, z_n_add, z_n_mul, z_lt, z_le, z_eq, z_ne1, z_1ne, z_lt1, z_1lt, z_ltT, z_ltF, z_leT, z_leF, z_eqF, z_b_0, z_b_1, ↓reduceIte, eq_self, not_true_eq_false, not_false_eq_true, and_true, true_and, and_false, false_and, Nat.add_zero, Nat.zero_add]
        · rw [z_fr_o hd]
          simp (disch := omega) only [f_Mo_life, M_thr hS2, M_isTable hx, M_win, M_wout hd, or_true, true_or, or_false, false_or, z_b_T, z_b_F, Bool.false_eq_true, Classical.not_not, decide_eq_true_eq, z_sq, Option.bind_some, z_lits, z_n_add, z_n_mul, z_lt, z_le, z_eq, z_ne1, z_1ne, z_lt1, z_1lt, z_ltT, z_ltF, z_leT, z_leF, z_eqF, z_b_0, z_b_1, ↓reduceIte, eq_self, not_true_eq_false, not_false_eq_true, and_true, true_and, and_false, false_and, Nat.add_zero, Nat.zero_add]
    · refine z_pr.same (r := -z_n 1) ?_ ?_ m
      · simp (disch := omega) only [f_Rs_life, C_isTable hx, C_out hao, or_true, true_or, or_false, false_or, z_b_T, z_b_F, Bool.false_eq_true, Classical.not_not, decide_eq_true_eq, z_sq, Option.bind_some, z_lits, z_n_add, z_n_mul, z_lt, z_le, z_eq, z_ne1, z_1ne, z_lt1, z_1lt, z_ltT, z_ltF, z_leT, z_leF, z_eqF, z_b_0, z_b_1, ↓reduceIte, eq_self, not_true_eq_false, not_false_eq_true, and_true, true_and, and_false, false_and, Nat.add_zero, Nat.zero_add]
      · simp (disch := omega) only [f_Mo_life, M_thr hS, M_isTable hx, M_wout hao, or_true, true_or, or_false, false_or, z_b_T, z_b_F, Bool.false_eq_true, Classical.not_not, decide_eq_true_eq, z_sq, Option.bind_some, z_lits, z_n_add, z_n_mul, z_lt, z_le, z_eq, z_ne1, z_1ne, z_lt1, z_1lt, z_ltT, z_ltF, z_leT, z_leF, z_eqF, z_b_0, z_b_1, ↓reduceIte, eq_self, not_true_eq_false, not_false_eq_true, and_true, true_and, and_false, false_and, Nat.add_zero, Nat.zero_add]
  · refine z_pr.same (r := -z_n 1) ?_ ?_ m
    · simp (disch := omega) only [f_Rs_life, C_isTable_o ho, or_true, true_or, or_false, false_or, z_b_T, z_b_F, Bool.false_eq_true, Classical.not_not, decide_eq_true_eq, z_sq, Option.bind_some, z_lits, z_n_add, z_n_mul, z_lt, z_le, z_eq, z_ne1, z_1ne, z_lt1, z_1lt, z_ltT, z_ltF, z_leT, z_leF, z_eqF, z_b_0, z_b_1, ↓reduceIte, eq_self, not_true_eq_false, not_false_eq_true, and_true, true_and, and_false, false_and, Nat.add_zero, Nat.zero_add]
    · simp (disch := omega) only [f_Mo_life, M_thr hS, M_isTable_o ho, or_true, true_or, or_false, false_or, z_b_T, z_b_F, Bool.false_eq_true, Classical.not_not, decide_eq_true_eq, z_sq, Option.bind_some, z_lits, z_n_add, z_n_mul, z_lt, z_le, z_eq, z_ne1, z_1ne, z_lt1, z_1lt, z_ltT, z_ltF, z_leT, z_leF, z_eqF, z_b_0, z_b_1, ↓reduceIte, eq_self, not_true_eq_false, not_false_eq_true, and_true, true_and, and_false, false_and, Nat.add_zero, Nat.zero_add]
end
