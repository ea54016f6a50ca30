/-! FEED: the pair. -/
section
variable {S : z_SH} {I I' : z_MI} {J J' : z_MJ} {P : z_MP} {K : Nat → Bool} {n : Nat}
theorem Inv.tape (h : Inv S I J P K n) (e : ∀ a, (a < 9 ∨ (10 < a ∧ a < 83) ∨ (84 ≤ a ∧ a ≤ 98) ∨ a = 101 ∨ (103 ≤ a ∧ a ≤ 107) ∨ 125 ≤ a) → I' a = I a ∧ J' a = J a) (e32 : I' 83 32 = I 83 32) (tp : i_tp I') : Inv S I' J' P K n := by
  obtain ⟨B, ho, -, hm, hl, hc⟩ := h
  have n131 : 131 ≤ n := B.2.2.1.1
  have hK := B.2.2.1.2
  have hcg : h_cg I J I' J' := fun a ha => by
    unfold h_hra at ha
    simp only [Bool.or_eq_true, Bool.and_eq_true, decide_eq_true_eq] at ha
    exact e a (by omega)
  have gp : ∀ p D, z_pg S I J P K n p D → z_pg S I' J' P K n p D := fun p D k => k.set (fun a ha => ⟨(e a (by omega)).1, (e a (by omega)).2, rfl⟩)
  obtain ⟨m1, m2, m3, m4, m5, m6, m7⟩ := B.2.2.2.1
  obtain ⟨c1, c2, c3, c4, c5⟩ := B.qC
  refine ⟨⟨B.1, B.2.1, B.2.2.1, z_iM.set B.2.2.2.1 (fun a h1 h2 => e a (by omega)) (fun s hs => ?_) (fun s hs => ?_) (fun u hu => ?_) (fun i hi => ?_) ?_, ⟨fun s hs => ?_, fun u hu => ?_, fun t k ht hk => ?_, fun i hi => ?_, ?_⟩, fun s hs => ?_⟩, ho.set hcg (fun a h1 h2 => (e a (by omega)).1), tp, ?_, ?_, ?_⟩
  · rw [z_vi_w hcg, hcg.i 87 rfl]; exact m2 s hs
  · rw [hcg.i 85 rfl, hcg.i 86 rfl, hcg.i 88 rfl, (e 89 (by omega)).1]; exact m4 s hs
  · rw [(e 84 (by omega)).1]; exact m5 u hu
  · rw [(e 101 (by omega)).1]; exact m6 i hi
  · rw [e32, (e 103 (by omega)).1]; exact m7
  · rw [(e 14 (by omega)).1, (e 15 (by omega)).1, (e 16 (by omega)).1, (e 17 (by omega)).1, (e 85 (by omega)).1, (e 87 (by omega)).1, (e 88 (by omega)).1, (e 89 (by omega)).1]; exact c1 s hs
  · rw [(e 19 (by omega)).1, (e 84 (by omega)).1]; exact c2 u hu
  · rw [(e (29 + t) (by omega)).1, (e 101 (by omega)).1]; exact c3 t k ht hk
  · rw [(e 33 (by omega)).1, (e 103 (by omega)).1]; exact c4 i hi
  · rw [(e 27 (by omega)).1, e32]; exact c5
  · rw [z_th_w hcg, z_Ds_w hcg]
    rcases B.pg hs with k | ⟨k1, p, k2, k3⟩
    · exact Or.inl k
    · exact Or.inr ⟨k1, p, k2, gp p _ k3⟩
  · exact hm.mono (fun a ha => ⟨(e a (by omega)).1, (e a (by omega)).2, rfl⟩) gp
  · exact hl.mono (Nat.le_refl _) rfl ⟨(e 104 (by omega)).1, (e 105 (by omega)).1, (e 106 (by omega)).1, (e 107 (by omega)).1⟩ (fun a h1 h2 h3 => ⟨⟨rfl, rfl⟩, fun _ => (e a (by omega)).1⟩) hK
  · obtain ⟨c1, c2, c3, c4, c5⟩ := hc
    refine ⟨fun i hi => by rw [(e 11 (by omega)).2]; exact c1 i hi, fun i hi => by rw [(e 12 (by omega)).2]; exact c2 i hi, fun i hi => by rw [(e 1 (by omega)).1]; exact c3 i hi, fun i hi => by rw [(e 7 (by omega)).1]; exact c4 i hi, by rw [(e 4 (by omega)).1]; exact c5⟩
end
theorem k_and (x : Int64) : ∃ c, c < 256 ∧ (x &&& (255 : Int64)).toInt32 = z_n c := by
  refine ⟨(x.toBitVec &&& 255#64).toNat, ?_, ?_⟩
  · rw [BitVec.toNat_and]
    exact Nat.lt_of_le_of_lt Nat.and_le_right (by decide)
  · apply Int32.toBitVec_inj.mp
    apply BitVec.eq_of_getLsbD_eq
    intro i hi
    have e : (255 : Int64).toBitVec = 255#64 := rfl
    rw [Int64.toBitVec_toInt32, Int64.toBitVec_and, e, BitVec.getLsbD_signExtend, if_pos (show i < 64 by omega)]
    show _ = (BitVec.ofNat 32 (x.toBitVec &&& 255#64).toNat).getLsbD i
    rw [BitVec.getLsbD_ofNat]
    rfl
/-- a sign of a word -/
def k_x (w : Int64) (k : Nat) : Int32 := (((w.toUInt64 >>> ((z_n (56 - 8 * k)).toInt64.toUInt64 &&& Int64.toUInt64 63)).toInt64) &&& (255 : Int64)).toInt32
def k_c (w : Int64) (k : Nat) : Nat := (k_x w k).toNatClampNeg
theorem k_x_c (w : Int64) (k : Nat) : k_x w k = z_n (k_c w k) ∧ k_c w k < 256 := by
  obtain ⟨c, h1, h2⟩ := k_and ((w.toUInt64 >>> ((z_n (56 - 8 * k)).toInt64.toUInt64 &&& Int64.toUInt64 63)).toInt64)
  unfold k_c k_x
  rw [h2, z_n_nat (by omega)]
  exact ⟨rfl, h1⟩
abbrev k_T : Type := Nat × (Nat → Nat)
def k_gd (c : Nat) : Prop := c = 10 ∨ (32 ≤ c ∧ c ≤ 126)
def k_ap (c : Nat) (T : k_T) : k_T := if (c = 10 ∨ (32 ≤ c ∧ c ≤ 126)) ∧ T.1 < 1000 then (T.1 + 1, fun i => if i = T.1 then c else T.2 i) else T
def k_fd (g : Nat → Nat) (T : k_T) : Nat → k_T
  | 0 => T
  | k + 1 => k_ap (g k) (k_fd g T k)
theorem k_fd_add (g : Nat → Nat) (T : k_T) (a : Nat) : ∀ b, k_fd g T (a + b) = k_fd (fun k => g (a + k)) (k_fd g T a) b
  | 0 => rfl
  | b + 1 => by
    show k_ap (g (a + b)) (k_fd g T (a + b)) = k_ap (g (a + b)) _
    rw [k_fd_add g T a b]
theorem k_fd_eq {g h : Nat → Nat} (T : k_T) : ∀ k, (∀ i, i < k → g i = h i) → k_fd g T k = k_fd h T k
  | 0, _ => rfl
  | k + 1, e => by rw [k_fd, k_fd, k_fd_eq T k (fun i hi => e i (by omega)), e k (by omega)]
/-- a row that holds a text -/
def k_hd (x : Int32) (r : Nat → Int32) (T : k_T) : Prop := T.1 ≤ 1000 ∧ x = z_n T.1 ∧ ∀ i, i < T.1 → r i = z_n (T.2 i) ∧ (T.2 i = 10 ∨ (32 ≤ T.2 i ∧ T.2 i ≤ 126))
theorem k_ch : ∀ c, c < 256 → ((z_n c).toUInt32 % 65536).toInt32 = z_n c ∧ (z_n c).toUInt32.toUInt16.toUInt32.toInt32 = z_n c := by decide +kernel
theorem k_nar {c : Nat} (h : c < 256) : narrow .char (.int (z_n c)) = .int (z_n c) := by
  show Value.int ((z_n c).toUInt32.toUInt16.toUInt32.toInt32) = _
  rw [(k_ch c h).2]
section
variable {S : z_SH} {I : z_MI} {J : z_MJ} {P : z_MP} {K : Nat → Bool} {n : Nat × Nat}
def k_sh (k : Nat) : Int32 := Int32.ofInt (56 - 8 * (k : Int))
theorem k_sh_s (k : Nat) : k_sh k + -z_n 8 = k_sh (k + 1) := by
  unfold k_sh
  rw [show -z_n 8 = Int32.ofInt (-8) from rfl, ← Int32.ofInt_add]
  congr 1
  omega
theorem k_sh_n : ∀ {k : Nat}, k < 8 → k_sh k = z_n (56 - 8 * k) := by decide
set_option maxRecDepth 100000 in
set_option maxHeartbeats 4000000 in
theorem C_put (hS : z_St S) (hP : z_Pt P) (w : Int64) {T : k_T} (h0 : k_hd (I 9 1) (I 10) T) : ∃ X, f_Ta_put 9 w (z_h S I J P n) = some ((), z_h S X J P n) ∧ (∀ a, a ≠ 9 → a ≠ 10 → X a = I a) ∧ k_hd (X 9 1) (X 10) (k_fd (k_c w) T 8) := by
  obtain ⟨X, a1, a2, a3⟩ : ∃ X, f_Ta_put_L3 9 w q_FU (k_sh 0) (z_h S I J P n) = some ((), z_h S X J P n) ∧ (∀ a, a ≠ 9 → a ≠ 10 → X a = I a) ∧ k_hd (X 9 1) (X 10) (k_fd (k_c w) T 8) :=
    z_runI (fun m k (X : z_MI) => f_Ta_put_L3 9 w m (k_sh k) (z_h S X J P n)) 8
    (fun k X => (∀ a, a ≠ 9 → a ≠ 10 → X a = I a) ∧ k_hd (X 9 1) (X 10) (k_fd (k_c w) T k))
    (fun r => ∃ X, r = some ((), z_h S X J P n) ∧ (∀ a, a ≠ 9 → a ≠ 10 → X a = I a) ∧ k_hd (X 9 1) (X 10) (k_fd (k_c w) T 8)) (by omega)
    (by
      intro m k X hk ⟨q1, q2⟩
      obtain ⟨x1, x2⟩ := k_x_c w k
      unfold k_x at x1
      rw [k_fd]
      obtain ⟨t1, t2, t3⟩ := q2
      have sn := k_sh_s k
      rw [k_sh_n hk] at sn ⊢
      generalize k_fd (k_c w) T k = U at *
      generalize k_c w k = c at *
      have ch := (k_ch c x2).1
      have nar := k_nar x2
      have n8 : (-8 : Int32) = -z_n 8 := rfl
      unfold k_ap
      by_cases g : (c = 10 ∨ (32 ≤ c ∧ c ≤ 126)) ∧ U.1 < 1000
      · rw [if_pos g]
        have e9 : z_up X 10 U.1 (z_n c) 9 1 = z_n U.1 := by rw [z_ups (by decide)]; exact t2
        refine ⟨z_up (z_up X 10 U.1 (z_n c)) 9 1 (z_n (U.1 + 1)), ⟨fun a h9 h10 => by rw [z_ups h9, z_ups h10]; exact q1 a h9 h10, by simp only; omega, z_up_s _ _ _ _, fun i hi => ?_⟩, ?_⟩
        · simp only at hi ⊢
          rw [z_ups (by decide), z_up_e]
          by_cases q : i = U.1
          · rw [if_pos q, if_pos q]; exact ⟨rfl, g.1⟩
          · rw [if_neg q, if_neg q]; exact t3 i (by omega)
        · have g2 := g.2
          by_cases c10 : c = 10
          · subst c10
            simp (disch := omega) only [f_Ta_put_L3, x1, z_Tar hS hP, z_Taw hS, t2, g2, ch, nar, e9, n8, sn, or_true, true_or, or_false, false_or, z_b_T, z_b_F, Bool.false_eq_true, Classical.not_not, decide_eq_true_eq, z_sq, Option.bind_some, z_lits, z_n_add, z_n_mul, z_lt, z_le, z_eq, z_ne1, z_1ne, z_lt1, z_1lt, z_ltT, z_ltF, z_leT, z_leF, z_eqF, z_b_0, z_b_1, ↓reduceIte, eq_self, not_true_eq_false, not_false_eq_true, and_true, true_and, and_false, false_and, Nat.add_zero, Nat.zero_add]
          · have g1 : 32 ≤ c ∧ c ≤ 126 := by omega
            simp (disch := omega) only [f_Ta_put_L3, x1, C_isFrom, c10, z_Tar hS hP, z_Taw hS, t2, g2, ch, nar, e9, n8, sn, or_true, true_or, or_false, false_or, z_b_T, z_b_F, Bool.false_eq_true, Classical.not_not, decide_eq_true_eq, z_sq, Option.bind_some, z_lits, z_n_add, z_n_mul, z_lt, z_le, z_eq, z_ne1, z_1ne, z_lt1, z_1lt, z_ltT, z_ltF, z_leT, z_leF, z_eqF, z_b_0, z_b_1, ↓reduceIte, eq_self, not_true_eq_false, not_false_eq_true, and_true, true_and, and_false, false_and, Nat.add_zero, Nat.zero_add]
      · rw [if_neg g]
        refine ⟨X, ⟨q1, t1, t2, t3⟩, ?_⟩
        by_cases c10 : c = 10
        · subst c10
          have g2 : ¬ U.1 < 1000 := by omega
          simp (disch := omega) only [f_Ta_put_L3, x1, z_Tar hS hP, t2, g2, n8, sn, or_true, true_or, or_false, false_or, z_b_T, z_b_F, Bool.false_eq_true, Classical.not_not, decide_eq_true_eq, z_sq, Option.bind_some, z_lits, z_n_add, z_n_mul, z_lt, z_le, z_eq, z_ne1, z_1ne, z_lt1, z_1lt, z_ltT, z_ltF, z_leT, z_leF, z_eqF, z_b_0, z_b_1, ↓reduceIte, eq_self, not_true_eq_false, not_false_eq_true, and_true, true_and, and_false, false_and, Nat.add_zero, Nat.zero_add]
        · by_cases g1 : 32 ≤ c ∧ c ≤ 126
          · have g2 : ¬ U.1 < 1000 := by omega
            simp (disch := omega) only [f_Ta_put_L3, x1, C_isFrom, c10, z_Tar hS hP, t2, g2, n8, sn, or_true, true_or, or_false, false_or, z_b_T, z_b_F, Bool.false_eq_true, Classical.not_not, decide_eq_true_eq, z_sq, Option.bind_some, z_lits, z_n_add, z_n_mul, z_lt, z_le, z_eq, z_ne1, z_1ne, z_lt1, z_1lt, z_ltT, z_ltF, z_leT, z_leF, z_eqF, z_b_0, z_b_1, ↓reduceIte, eq_self, not_true_eq_false, not_false_eq_true, and_true, true_and, and_false, false_and, Nat.add_zero, Nat.zero_add]
          · have g3 : ¬ (¬ c < 32 ∧ ¬ 126 < c) := by omega
            simp (disch := omega) only [f_Ta_put_L3, x1, C_isFrom, c10, g3, n8, sn, Nat.not_lt_zero, or_true, true_or, or_false, false_or, z_b_T, z_b_F, z_sq, Option.bind_some, z_lits, z_n_add, z_lt, z_eq, ↓reduceIte])
    (by
      intro m X ⟨q1, q2⟩
      refine ⟨X, ?_, q1, q2⟩
      have e : k_sh 8 = -z_n 8 := by decide
      have l : (-z_n 8 < z_n 0) = True := eq_true (by decide)
      rw [e]
      simp only [f_Ta_put_L3, z_lits, l, ↓reduceIte])
    (x := I) ⟨fun _ _ _ => rfl, h0⟩
  refine ⟨X, ?_, a2, a3⟩
  have e : (56 : Int32) = k_sh 0 := by decide
  unfold f_Ta_put
  rw [e, a1, z_sq]
theorem k_m8 : ∀ k, k < 24 → (z_n k &&& z_n 7) = z_n (k % 8) := by decide
set_option maxRecDepth 100000 in
set_option maxHeartbeats 4000000 in
theorem M_feedL (hS : z_St S) (hP : z_Pt P) (a b c : Int64) {T : k_T} (h0 : k_hd (I 83 16) (I 99) T) : ∃ X, f_Mo_feed_L8 83 a b c q_FU (z_n 0) (z_h S I J P n) = some ((), z_h S X J P n) ∧ (∀ x, x ≠ 83 → x ≠ 99 → X x = I x) ∧ (∀ i, i ≠ 16 → X 83 i = I 83 i) ∧ k_hd (X 83 16) (X 99) (k_fd (k_c c) (k_fd (k_c b) (k_fd (k_c a) T 8) 8) 8) := by
  have comp : k_fd (k_c c) (k_fd (k_c b) (k_fd (k_c a) T 8) 8) 8 = k_fd (fun k => k_c (if k < 8 then a else if k < 16 then b else c) (k % 8)) T 24 := by
    rw [show 24 = 8 + (8 + 8) from rfl, k_fd_add, k_fd_add]
    have e1 : k_fd (k_c a) T 8 = k_fd (fun k => k_c (if k < 8 then a else if k < 16 then b else c) (k % 8)) T 8 := k_fd_eq T 8 (fun i hi => by rw [if_pos hi, Nat.mod_eq_of_lt hi])
    rw [e1]
    generalize k_fd (fun k => k_c (if k < 8 then a else if k < 16 then b else c) (k % 8)) T 8 = U
    have e2 : k_fd (k_c b) U 8 = k_fd (fun k => k_c (if 8 + k < 8 then a else if 8 + k < 16 then b else c) ((8 + k) % 8)) U 8 := k_fd_eq U 8 (fun i hi => by rw [if_neg (by omega), if_pos (by omega), Nat.add_mod_left, Nat.mod_eq_of_lt hi])
    rw [e2]
    generalize k_fd (fun k => k_c (if 8 + k < 8 then a else if 8 + k < 16 then b else c) ((8 + k) % 8)) U 8 = V
    exact k_fd_eq V 8 (fun i hi => by
      show k_c c i = k_c (if 8 + (8 + i) < 8 then a else if 8 + (8 + i) < 16 then b else c) ((8 + (8 + i)) % 8)
      rw [if_neg (by omega), if_neg (by omega), Nat.add_mod_left, Nat.add_mod_left, Nat.mod_eq_of_lt hi])
  rw [comp]
  exact z_runI (fun m k (X : z_MI) => f_Mo_feed_L8 83 a b c m (z_n k) (z_h S X J P n)) 24
    (fun k X => (∀ x, x ≠ 83 → x ≠ 99 → X x = I x) ∧ (∀ i, i ≠ 16 → X 83 i = I 83 i) ∧ k_hd (X 83 16) (X 99) (k_fd (fun k => k_c (if k < 8 then a else if k < 16 then b else c) (k % 8)) T k))
    (fun r => ∃ X, r = some ((), z_h S X J P n) ∧ (∀ x, x ≠ 83 → x ≠ 99 → X x = I x) ∧ (∀ i, i ≠ 16 → X 83 i = I 83 i) ∧ k_hd (X 83 16) (X 99) (k_fd (fun k => k_c (if k < 8 then a else if k < 16 then b else c) (k % 8)) T 24)) (by omega)
    (by
      intro m k X hk ⟨q1, q0, q2⟩
      rw [k_fd]
      obtain ⟨t1, t2, t3⟩ := q2
      generalize k_fd (fun k => k_c (if k < 8 then a else if k < 16 then b else c) (k % 8)) T k = U at *
      have ew : (if z_n k < z_n 8 then (some (a, z_h S X J P n)) else (if z_n k < z_n 16 then (some (b, z_h S X J P n)) else (some (c, z_h S X J P n)))) = some ((if k < 8 then a else if k < 16 then b else c), z_h S X J P n) := by
        have l1 : (z_n k < z_n 8) ↔ k < 8 := by rw [z_lt (by omega) (by omega)]
        have l2 : (z_n k < z_n 16) ↔ k < 16 := by rw [z_lt (by omega) (by omega)]
        by_cases k8 : k < 8
        · rw [if_pos (l1.mpr k8), if_pos k8]
        · rw [if_neg (fun q => k8 (l1.mp q)), if_neg k8]
          by_cases k16 : k < 16
          · rw [if_pos (l2.mpr k16), if_pos k16]
          · rw [if_neg (fun q => k16 (l2.mp q)), if_neg k16]
      obtain ⟨x1, x2⟩ := k_x_c (if k < 8 then a else if k < 16 then b else c) (k % 8)
      unfold k_x at x1
      have m8 := k_m8 k hk
      have s8 : z_n 56 - z_n (8 * (k % 8)) = z_n (56 - 8 * (k % 8)) := z_n_sub (by omega)
      generalize (if k < 8 then a else if k < 16 then b else c) = w at *
      generalize k_c w (k % 8) = ch at *
      have fold : f_Mo_feed_L8 83 a b c (m + 1) (z_n k) (z_h S X J P n) = if z_n k < z_n 24 then (q_sq (some (w, z_h S X J P n)) fun (t4 : Int64) σ5 => (q_gi (q_gf σ5 12 83 16)).bind fun x6 => if x6 < (1000 : Int32) then (if ((((t4.toUInt64 >>> (((56 : Int32) - ((8 : Int32) * (z_n k &&& (7 : Int32)))).toInt64.toUInt64 &&& Int64.toUInt64 63)).toInt64) &&& (255 : Int64)).toInt32) = (10 : Int32) then ((q_gr (q_gf σ5 12 83 17)).bind fun x9 => (q_gi (q_gf σ5 12 83 16)).bind fun x10 => (q_sa σ5 20 x9 x10 (.int ((((t4.toUInt64 >>> (((56 : Int32) - ((8 : Int32) * (z_n k &&& (7 : Int32)))).toInt64.toUInt64 &&& Int64.toUInt64 63)).toInt64) &&& (255 : Int64)).toInt32))).bind fun σ11 => (q_gi (q_gf σ11 12 83 16)).bind fun x12 => (q_sf σ11 12 83 16 (.int (x12 + (1 : Int32)))).bind fun σ13 => f_Mo_feed_L8 83 a b c m (z_n k + (1 : Int32)) σ13) else (if ((((t4.toUInt64 >>> (((56 : Int32) - ((8 : Int32) * (z_n k &&& (7 : Int32)))).toInt64.toUInt64 &&& Int64.toUInt64 63)).toInt64) &&& (255 : Int64)).toInt32) < (32 : Int32) then (f_Mo_feed_L8 83 a b c m (z_n k + (1 : Int32)) σ5) else (if (126 : Int32) < ((((t4.toUInt64 >>> (((56 : Int32) - ((8 : Int32) * (z_n k &&& (7 : Int32)))).toInt64.toUInt64 &&& Int64.toUInt64 63)).toInt64) &&& (255 : Int64)).toInt32) then (f_Mo_feed_L8 83 a b c m (z_n k + (1 : Int32)) σ5) else ((q_gr (q_gf σ5 12 83 17)).bind fun x16 => (q_gi (q_gf σ5 12 83 16)).bind fun x17 => (q_sa σ5 20 x16 x17 (.int ((((t4.toUInt64 >>> (((56 : Int32) - ((8 : Int32) * (z_n k &&& (7 : Int32)))).toInt64.toUInt64 &&& Int64.toUInt64 63)).toInt64) &&& (255 : Int64)).toInt32))).bind fun σ18 => (q_gi (q_gf σ18 12 83 16)).bind fun x19 => (q_sf σ18 12 83 16 (.int (x19 + (1 : Int32)))).bind fun σ20 => f_Mo_feed_L8 83 a b c m (z_n k + (1 : Int32)) σ20)))) else (f_Mo_feed_L8 83 a b c m (z_n k + (1 : Int32)) σ5)) else (some ((), z_h S X J P n)) := by
        rw [← ew]
        rfl
      unfold k_ap
      by_cases g : (ch = 10 ∨ (32 ≤ ch ∧ ch ≤ 126)) ∧ U.1 < 1000
      · rw [if_pos g]
        have e9 : z_up X 99 U.1 (z_n ch) 83 16 = z_n U.1 := by rw [z_ups (by decide)]; exact t2
        refine ⟨z_up (z_up X 99 U.1 (z_n ch)) 83 16 (z_n (U.1 + 1)), ⟨fun a h9 h10 => by rw [z_ups h9, z_ups h10]; exact q1 a h9 h10, fun i hi => by rw [z_up_e, if_neg hi, z_ups (by decide)]; exact q0 i hi, by simp only; omega, z_up_s _ _ _ _, fun i hi => ?_⟩, ?_⟩
        · simp only at hi ⊢
          rw [z_ups (by decide), z_up_e]
          by_cases q : i = U.1
          · rw [if_pos q, if_pos q]; exact ⟨rfl, g.1⟩
          · rw [if_neg q, if_neg q]; exact t3 i (by omega)
        · have g2 := g.2
          rw [fold]
          by_cases c10 : ch = 10
          · subst c10
            simp (disch := omega) only [hk, m8, s8, x1, z_Mr hS hP, z_Mw hS, t2, g2, e9, or_true, true_or, or_false, false_or, z_b_T, z_b_F, Bool.false_eq_true, Classical.not_not, decide_eq_true_eq, z_sq, Option.bind_some, z_lits, z_n_add, z_n_mul, z_lt, z_le, z_eq, z_ne1, z_1ne, z_lt1, z_1lt, z_ltT, z_ltF, z_leT, z_leF, z_eqF, z_b_0, z_b_1, ↓reduceIte, eq_self, not_true_eq_false, not_false_eq_true, and_true, true_and, and_false, false_and, Nat.add_zero, Nat.zero_add]
          · have g1 : 32 ≤ ch ∧ ch ≤ 126 := by omega
            simp (disch := omega) only [hk, m8, s8, x1, c10, z_Mr hS hP, z_Mw hS, t2, g2, e9, or_true, true_or, or_false, false_or, z_b_T, z_b_F, Bool.false_eq_true, Classical.not_not, decide_eq_true_eq, z_sq, Option.bind_some, z_lits, z_n_add, z_n_mul, z_lt, z_le, z_eq, z_ne1, z_1ne, z_lt1, z_1lt, z_ltT, z_ltF, z_leT, z_leF, z_eqF, z_b_0, z_b_1, ↓reduceIte, eq_self, not_true_eq_false, not_false_eq_true, and_true, true_and, and_false, false_and, Nat.add_zero, Nat.zero_add]
      · rw [if_neg g]
        refine ⟨X, ⟨q1, q0, t1, t2, t3⟩, ?_⟩
        rw [fold]
        by_cases g2 : U.1 < 1000
        · have c10 : ¬ ch = 10 := by omega
          by_cases g1 : ch < 32
          · simp (disch := omega) only [hk, m8, s8, x1, c10, z_Mr hS hP, t2, g2, g1, or_true, true_or, or_false, false_or, z_b_T, z_b_F, Bool.false_eq_true, Classical.not_not, decide_eq_true_eq, z_sq, Option.bind_some, z_lits, z_n_add, z_n_mul, z_lt, z_le, z_eq, z_ne1, z_1ne, z_lt1, z_1lt, z_ltT, z_ltF, z_leT, z_leF, z_eqF, z_b_0, z_b_1, ↓reduceIte, eq_self, not_true_eq_false, not_false_eq_true, and_true, true_and, and_false, false_and, Nat.add_zero, Nat.zero_add]
          · have g3 : 126 < ch := by omega
            simp (disch := omega) only [hk, m8, s8, x1, c10, z_Mr hS hP, t2, g2, g1, g3, or_true, true_or, or_false, false_or, z_b_T, z_b_F, Bool.false_eq_true, Classical.not_not, decide_eq_true_eq, z_sq, Option.bind_some, z_lits, z_n_add, z_n_mul, z_lt, z_le, z_eq, z_ne1, z_1ne, z_lt1, z_1lt, z_ltT, z_ltF, z_leT, z_leF, z_eqF, z_b_0, z_b_1, ↓reduceIte, eq_self, not_true_eq_false, not_false_eq_true, and_true, true_and, and_false, false_and, Nat.add_zero, Nat.zero_add]
        · simp (disch := omega) only [hk, m8, s8, x1, z_Mr hS hP, t2, g2, or_true, true_or, or_false, false_or, z_b_T, z_b_F, Bool.false_eq_true, Classical.not_not, decide_eq_true_eq, z_sq, Option.bind_some, z_lits, z_n_add, z_n_mul, z_lt, z_le, z_eq, z_ne1, z_1ne, z_lt1, z_1lt, z_ltT, z_ltF, z_leT, z_leF, z_eqF, z_b_0, z_b_1, ↓reduceIte, eq_self, not_true_eq_false, not_false_eq_true, and_true, true_and, and_false, false_and, Nat.add_zero, Nat.zero_add])
    (by
      intro m X ⟨q1, q0, q2⟩
      refine ⟨X, ?_, q1, q0, q2⟩
      simp (disch := omega) only [f_Mo_feed_L8, Nat.lt_irrefl, or_true, true_or, or_false, false_or, z_b_T, z_b_F, Bool.false_eq_true, Classical.not_not, decide_eq_true_eq, z_sq, Option.bind_some, z_lits, z_n_add, z_n_mul, z_lt, z_le, z_eq, z_ne1, z_1ne, z_lt1, z_1lt, z_ltT, z_ltF, z_leT, z_leF, z_eqF, z_b_0, z_b_1, ↓reduceIte, eq_self, not_true_eq_false, not_false_eq_true, and_true, true_and, and_false, false_and, Nat.add_zero, Nat.zero_add])
    (x := I) ⟨fun _ _ _ => rfl, fun _ _ => rfl, h0⟩
set_option maxRecDepth 100000 in
set_option maxHeartbeats 4000000 in
theorem X_feed (H : Inv S I J P K n.1) (a b c : Int64) : z_call (f_Rs_feed 8 a b c) (f_Mo_feed 83 a b c) S I J P n := by
  have B := H.1
  have hS := B.qS
  have hP := B.qP
  obtain ⟨N, t1, t2, t3, t4⟩ := H.2.2.1
  have hT1 : k_hd (I 9 1) (I 10) (N, fun i => (I 10 i).toNatClampNeg) := ⟨t1, t2, fun i hi => by
    obtain ⟨x, h1, h2, h3⟩ := t4 i hi
    have : (I 10 i).toNatClampNeg = x := by rw [h1]; exact z_n_nat (by omega)
    simp only [this]
    exact ⟨h1, h3⟩⟩
  have hT2 : k_hd (I 83 16) (I 99) (N, fun i => (I 10 i).toNatClampNeg) := ⟨t1, t3, fun i hi => by
    obtain ⟨x, h1, h2, h3⟩ := t4 i hi
    have : (I 10 i).toNatClampNeg = x := by rw [h1]; exact z_n_nat (by omega)
    simp only [this]
    exact ⟨h2, h3⟩⟩
  generalize ((N, fun i => (I 10 i).toNatClampNeg) : k_T) = T at *
  obtain ⟨X1, a1, a2, a3⟩ := C_put (J := J) (n := n) hS hP a hT1
  obtain ⟨X2, b1, b2, b3⟩ := C_put (J := J) (n := n) hS hP b a3
  obtain ⟨X3, c1, c2, c3⟩ := C_put (J := J) (n := n) hS hP c b3
  have e0 : ∀ x, x ≠ 9 → x ≠ 10 → X3 x = I x := fun x h1 h2 => by rw [c2 x h1 h2, b2 x h1 h2, a2 x h1 h2]
  obtain ⟨Y, d1, d2, d3, d4⟩ := M_feedL (I := z_up X3 83 0 (z_n 0)) (J := J) (n := n) hS hP a b c (T := T) (by
    rw [z_up_e, if_neg (by decide), z_ups (by decide), e0 83 (by decide) (by decide), e0 99 (by decide) (by decide)]; exact hT2)
  generalize k_fd (k_c c) (k_fd (k_c b) (k_fd (k_c a) T 8) 8) 8 = U at *
  have g9 : ∀ I J, q_gr (q_gf (z_h S I J P n) 0 8 0) = some 9 := fun _ _ => z_gr (s_8 hS) rfl (p_8_0 hP)
  have o9 : ∀ I J, q_ob (z_h S I J P n) 1 9 = some _ := fun _ _ => z_ob (s_9 hS)
  refine ⟨z_n U.1, S, X3, J, P, n, K, Y, J, ?_, ?_, ⟨by omega, by omega, by omega⟩, ?_⟩
  · simp (disch := omega) only [f_Rs_feed, g9, o9, a1, b1, c1, z_Tar hS hP, c3.2.1, or_true, true_or, or_false, false_or, z_b_T, z_b_F, Bool.false_eq_true, Classical.not_not, decide_eq_true_eq, z_sq, Option.bind_some, z_lits, z_n_add, z_n_mul, z_lt, z_le, z_eq, z_ne1, z_1ne, z_lt1, z_1lt, z_ltT, z_ltF, z_leT, z_leF, z_eqF, z_b_0, z_b_1, ↓reduceIte, eq_self, not_true_eq_false, not_false_eq_true, and_true, true_and, and_false, false_and, Nat.add_zero, Nat.zero_add]
  · simp (disch := omega) only [f_Mo_feed, M_thr hS, d1, z_Mr hS hP, d4.2.1, or_true, true_or, or_false, false_or, z_b_T, z_b_F, Bool.false_eq_true, Classical.not_not, decide_eq_true_eq, z_sq, Option.bind_some, z_lits, z_n_add, z_n_mul, z_lt, z_le, z_eq, z_ne1, z_1ne, z_lt1, z_1lt, z_ltT, z_ltF, z_leT, z_leF, z_eqF, z_b_0, z_b_1, ↓reduceIte, eq_self, not_true_eq_false, not_false_eq_true, and_true, true_and, and_false, false_and, Nat.add_zero, Nat.zero_add]
  have e : ∀ x, x ≠ 9 → x ≠ 10 → x ≠ 83 → x ≠ 99 → Y x = I x := fun x h1 h2 h3 h4 => by rw [d2 x h3 h4, z_ups h3, e0 x h1 h2]
  refine H.tape (fun x hx => ⟨e x (by omega) (by omega) (by omega) (by omega), rfl⟩) ?_ ⟨U.1, d4.1, ?_, d4.2.1, fun i hi => ⟨U.2 i, ?_, (d4.2.2 i hi).1, (d4.2.2 i hi).2⟩⟩
  · rw [d3 32 (by decide), z_up_e, if_neg (by decide), e0 83 (by decide) (by decide)]
  · rw [d2 9 (by decide) (by decide), z_ups (by decide)]; exact c3.2.1
  · rw [d2 10 (by decide) (by decide), z_ups (by decide)]; exact (c3.2.2 i hi).1
end
