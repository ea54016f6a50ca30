/-! ONE HOUSES: the class: sheets that are one. -/
section
variable {S : z_SH} {I X : z_MI} {J : z_MJ} {P : z_MP} {K : Nat → Bool} {n : Nat × Nat}
set_option maxRecDepth 100000 in
set_option maxHeartbeats 4000000 in
theorem C_join (B : z_B S I J P K n.1) (hX : ∀ a, (a < 22 ∨ 26 < a) → X a = I a) {s t : Nat} (hst : s < t) (ht : t < 24) (hk : h_kn I J (fun u _ => h_pr s t u) X) : ∃ Y, f_Ho_join 22 13 (z_n s) (z_n t) (z_h S X J P n) = some (z_n (h_nj I J s t), z_h S Y J P n) ∧ (∀ a, a ≠ 24 → a ≠ 25 → Y a = X a) ∧ h_kn I J (fun u _ => h_pr s (t + 1) u) Y := by
  have hS := B.qS
  have hP := B.qP
  have hs : s < 24 := by omega
  have hob := fun I J => z_ob (I := I) (J := J) (P := P) (n := n) (s_13 hS)
  have p1 := C_pageOf (I := X) (J := J) (n := n) hS hP hs
  have p2 := C_pageOf (I := X) (J := J) (n := n) hS hP ht
  obtain ⟨BX, cX⟩ := h_B B hX
  have cs := C_canShare (n := n) BX hs ht
  rw [z_th_c cX, z_th_c cX, cX.i 87 rfl, cX.i 87 rfl, cX.i 88 rfl, cX.i 88 rfl] at cs
  simp only [← h_sh_i] at cs
  by_cases sh : h_sh I s t = true
  · have ts := sh
    rw [h_sh_i] at ts
    obtain ⟨p, a1, a2, a3⟩ := h_pg B hX hs ts.1
    obtain ⟨q, b1, b2, b3⟩ := h_pg B hX ht ts.2.1
    have pp : 131 ≤ p ∧ 131 ≤ q := by
      refine ⟨?_, ?_⟩
      · rcases B.pg hs with ⟨h1, h2⟩ | ⟨h1, q, h2, h3⟩
        · rw [h1] at ts; cases ts.1
        · rw [h2] at a1; cases a1; exact h3.1.1
      · rcases B.pg ht with ⟨h1, h2⟩ | ⟨h1, q, h2, h3⟩
        · rw [h1] at ts; cases ts.2.1
        · rw [h2] at b1; cases b1; exact h3.1.1
    have h0 : h_kn I J (h_pi I J s t 0) X := hk.eq fun u a hu hth ha => by
      have e : h_pi I J s t 0 u a = h_pr s t u := by
        unfold h_pi h_pr
        by_cases c1 : u = s
        · rw [if_pos c1, if_neg (by omega), if_neg (by omega), if_pos c1]
        · rw [if_neg c1]
          by_cases c2 : u = t
          · rw [if_pos c2, if_neg (by omega), if_neg (by omega), if_neg c1, if_neg (by omega)]
          · rw [if_neg c2]
      rw [e]; exact ⟨rfl, rfl⟩
    obtain ⟨Y, c1, c2, c3⟩ := C_join41 (n := n) B hX hst ht sh a2 b2 pp a3 b3 h0
    refine ⟨Y, ?_, c2, c3.eq fun u a hu hth ha => ?_⟩
    · unfold f_Ho_join
      rw [hob, Option.bind_some, p1, z_sq, hob, Option.bind_some, p2, z_sq, a1, b1]
      simp only
      rw [hob, Option.bind_some, cs, z_sq, if_neg (by rw [z_b_t sh]; decide), show (0 : Int32) = z_n 0 from rfl, c1, z_sq]
    · unfold h_pi h_pr
      by_cases d1 : u = s
      · subst d1
        rw [if_neg (by omega), if_pos rfl, if_pos rfl, if_pos ha]
        exact ⟨rfl, rfl⟩
      · rw [if_neg d1, if_neg d1]
        by_cases d2 : u = t
        · subst d2
          rw [if_neg (by omega), if_pos (by omega), if_pos rfl]
          by_cases d3 : h_on I J u s a < z_ln I s
          · rw [if_pos d3]; exact ⟨rfl, rfl⟩
          · rw [if_neg d3, h_kf, h_kl, if_neg d3, if_neg d3]; exact ⟨rfl, rfl⟩
        · rw [if_neg d2, if_neg d1]
          by_cases d3 : u < s
          · rw [if_pos d3, if_pos d3]; exact ⟨rfl, rfl⟩
          · rw [if_neg d3, if_neg d3]
            by_cases d4 : u < t
            · rw [if_pos (by omega), if_pos d4]; exact ⟨rfl, rfl⟩
            · rw [if_neg (by omega), if_neg d4]; exact ⟨rfl, rfl⟩
  · have sh2 : ¬ h_sh I t s = true := by rw [h_sh_s]; exact sh
    have nj0 : h_nj I J s t = 0 := by
      unfold h_nj
      rw [z_sum_eq (g := fun _ => 0) (fun a _ => if_neg (h_on_n sh))]
      have := z_sum_le (fun _ => 0) 0 (z_ln I s) (fun _ _ => Nat.le_refl _)
      omega
    refine ⟨X, ?_, fun _ _ _ => rfl, hk.eq fun u a hu hth ha => ?_⟩
    · rw [nj0]
      unfold f_Ho_join
      rw [hob, Option.bind_some, p1, z_sq, hob, Option.bind_some, p2, z_sq]
      cases P 18 s with
      | none => rfl
      | some p =>
        cases P 18 t with
        | none => rfl
        | some q =>
          simp only
          rw [hob, Option.bind_some, cs, z_sq, z_b_f sh]
          exact if_pos rfl
    · unfold h_pr
      by_cases d1 : u < s
      · rw [if_pos d1, if_pos d1]; exact ⟨rfl, rfl⟩
      · rw [if_neg d1, if_neg d1]
        by_cases d2 : u = s
        · subst d2
          rw [if_pos rfl, if_pos rfl, h_kf, h_kl, if_neg (h_on_n sh), if_neg (h_on_n sh)]
          exact ⟨rfl, rfl⟩
        · rw [if_neg d2, if_neg d2]
          by_cases d3 : u < t
          · rw [if_pos (by omega), if_pos d3]; exact ⟨rfl, rfl⟩
          · rw [if_neg d3]
            by_cases d4 : u = t
            · subst d4
              rw [if_pos (by omega), h_kf, h_kl, if_neg (h_on_n sh2), if_neg (h_on_n sh2)]
              exact ⟨rfl, rfl⟩
            · rw [if_neg (by omega)]; exact ⟨rfl, rfl⟩
set_option maxRecDepth 100000 in
set_option maxHeartbeats 4000000 in
theorem C_unite (hS : z_St S) (hP : z_Pt P) {r : Nat → Nat} {s t : Nat} (hs : s < 24) (ht : t < 24) (hr : ∀ j, j < 24 → r j < 24 ∧ X 23 j = z_n (r j)) : ∃ Y, f_Ho_unite 22 (z_n s) (z_n t) (z_h S X J P n) = some ((), z_h S Y J P n) ∧ (∀ a, a ≠ 23 → Y a = X a) ∧ ∀ j, j < 24 → Y 23 j = z_n (h_mg r (r t) (r s) j) := by
  obtain ⟨s1, s2⟩ := hr s hs
  obtain ⟨t1, t2⟩ := hr t ht
  obtain ⟨Y, a1, a2, a3⟩ : ∃ Y, f_Ho_unite_L18 22 (z_n (r s)) (z_n (r t)) q_FU (z_n 0) (z_h S X J P n) = some ((), z_h S Y J P n) ∧ (∀ a, a ≠ 23 → Y a = X a) ∧ ∀ j, j < 24 → Y 23 j = z_n (h_mg r (r t) (r s) j) :=
    z_runI (fun m i (Y : z_MI) => f_Ho_unite_L18 22 (z_n (r s)) (z_n (r t)) m (z_n i) (z_h S Y J P n)) 24
    (fun i Y => (∀ a, a ≠ 23 → Y a = X a) ∧ ∀ j, j < 24 → Y 23 j = z_n (if j < i then h_mg r (r t) (r s) j else r j))
    (fun q => ∃ Y, q = some ((), z_h S Y J P n) ∧ (∀ a, a ≠ 23 → Y a = X a) ∧ ∀ j, j < 24 → Y 23 j = z_n (h_mg r (r t) (r s) j)) (by omega)
    (by
      intro m i Y hi ⟨q1, q2⟩
      have e := q2 i hi
      rw [if_neg (Nat.lt_irrefl _)] at e
      have ri := (hr i hi).1
      by_cases c : r i = r t
      · refine ⟨z_up Y 23 i (z_n (r s)), ⟨fun a ha => by rw [z_up_r ha]; exact q1 a ha, fun j hj => ?_⟩, ?_⟩
        · rw [z_up_e]
          by_cases d : j = i
          · subst d
            rw [if_pos rfl, if_pos (by omega)]
            unfold h_mg
            rw [if_pos c]
          · rw [if_neg d, q2 j hj]
            by_cases d2 : j < i
            · rw [if_pos d2, if_pos (by omega)]
            · rw [if_neg d2, if_neg (by omega)]
        · simp (disch := omega) only [f_Ho_unite_L18, z_Hor hS hP, z_How hS, hi, e, c, or_true, true_or, or_false, false_or, z_b_T, z_b_F, Bool.false_eq_true, Classical.not_not, decide_eq_true_eq, z_sq, Option.bind_some, z_lits, z_n_add, z_n_mul, z_lt, z_le, z_eq, z_ne1, z_1ne, z_lt1, z_1lt, z_ltT, z_ltF, z_leT, z_leF, z_eqF, z_b_0, z_b_1, ↓reduceIte, eq_self, not_true_eq_false, not_false_eq_true, and_true, true_and, and_false, false_and, Nat.add_zero, Nat.zero_add]
      · refine ⟨Y, ⟨q1, fun j hj => ?_⟩, ?_⟩
        · rw [q2 j hj]
          by_cases d : j = i
          · subst d
            rw [if_neg (Nat.lt_irrefl _), if_pos (by omega)]
            unfold h_mg
            rw [if_neg c]
          · by_cases d2 : j < i
            · rw [if_pos d2, if_pos (by omega)]
            · rw [if_neg d2, if_neg (by omega)]
        · simp (disch := omega) only [f_Ho_unite_L18, z_Hor hS hP, z_How hS, hi, e, c, or_true, true_or, or_false, false_or, z_b_T, z_b_F, Bool.false_eq_true, Classical.not_not, decide_eq_true_eq, z_sq, Option.bind_some, z_lits, z_n_add, z_n_mul, z_lt, z_le, z_eq, z_ne1, z_1ne, z_lt1, z_1lt, z_ltT, z_ltF, z_leT, z_leF, z_eqF, z_b_0, z_b_1, ↓reduceIte, eq_self, not_true_eq_false, not_false_eq_true, and_true, true_and, and_false, false_and, Nat.add_zero, Nat.zero_add])
    (by
      intro m Y ⟨q1, q2⟩
      refine ⟨Y, ?_, q1, fun j hj => by rw [q2 j hj, if_pos hj]⟩
      simp (disch := omega) only [f_Ho_unite_L18, Nat.lt_irrefl, or_true, true_or, or_false, false_or, z_b_T, z_b_F, Bool.false_eq_true, Classical.not_not, decide_eq_true_eq, z_sq, Option.bind_some, z_lits, z_n_add, z_n_mul, z_lt, z_le, z_eq, z_ne1, z_1ne, z_lt1, z_1lt, z_ltT, z_ltF, z_leT, z_leF, z_eqF, z_b_0, z_b_1, ↓reduceIte, eq_self, not_true_eq_false, not_false_eq_true, and_true, true_and, and_false, false_and, Nat.add_zero, Nat.zero_add])
    (x := X) ⟨fun _ _ => rfl, fun j hj => by rw [if_neg (Nat.not_lt_zero _)]; exact (hr j hj).2⟩
  refine ⟨Y, ?_, a2, a3⟩
  simp (disch := omega) only [f_Ho_unite, z_Hor hS hP, s2, t2, a1, or_true, true_or, or_false, false_or, z_b_T, z_b_F, Bool.false_eq_true, Classical.not_not, decide_eq_true_eq, z_sq, Option.bind_some, z_lits, z_n_add, z_n_mul, z_lt, z_le, z_eq, z_ne1, z_1ne, z_lt1, z_1lt, z_ltT, z_ltF, z_leT, z_leF, z_eqF, z_b_0, z_b_1, ↓reduceIte, eq_self, not_true_eq_false, not_false_eq_true, and_true, true_and, and_false, false_and, Nat.add_zero, Nat.zero_add]
/-- the roots as the class has them -/
def h_rc (I : z_MI) (J : z_MJ) (s : Nat) : Nat → Nat := h_ou (h_rs (h_nj I J)) s
theorem h_rs_lt {nj : Nat → Nat → Nat} {r : Nat → Nat} {s t : Nat} (hr : ∀ j, j < 24 → r j < 24) (hs : s < 24) (j : Nat) (hj : j < 24) : h_rs nj r s t j < 24 := by
  unfold h_rs
  split
  · exact hr j hj
  · unfold h_mg
    split
    · exact hr s hs
    · exact hr j hj
theorem h_in_lt {nj : Nat → Nat → Nat} {r : Nat → Nat} {s : Nat} (hr : ∀ j, j < 24 → r j < 24) (hs : s < 24) : ∀ k j, j < 24 → h_in (h_rs nj) r s k j < 24
  | 0, j, hj => hr j hj
  | k + 1, j, hj => h_rs_lt (fun i hi => h_in_lt hr hs k i hi) hs j hj
theorem h_ou_lt {nj : Nat → Nat → Nat} : ∀ s, s ≤ 24 → ∀ j, j < 24 → h_ou (h_rs nj) s j < 24
  | 0, _, j, hj => hj
  | s + 1, hs, j, hj => h_in_lt (fun i hi => h_ou_lt s (by omega) i hi) (by omega) (23 - s) j hj
set_option maxRecDepth 100000 in
set_option maxHeartbeats 4000000 in
theorem C_ref45 (B : z_B S I J P K n.1) (hX : ∀ a, (a < 22 ∨ 26 < a) → X a = I a) {r : Nat → Nat} {s : Nat} (hs : s < 24) (hr : ∀ j, j < 24 → r j < 24 ∧ X 23 j = z_n (r j)) (hk : h_kn I J (fun u _ => if u < s then 24 else s) X) : ∃ Y, f_Ho_refresh_L45 22 13 (z_n s) q_FU (z_n (s + 1)) (z_h S X J P n) = some ((), z_h S Y J P n) ∧ (∀ a, (a < 23 ∨ 25 < a) → Y a = X a) ∧ (∀ j, j < 24 → Y 23 j = z_n (h_in (h_rs (h_nj I J)) r s (23 - s) j)) ∧ h_kn I J (fun u _ => if u < s + 1 then 24 else s + 1) Y := by
  have hS := B.qS
  have hP := B.qP
  have hob := fun I J => z_ob (I := I) (J := J) (P := P) (n := n) (s_22 hS)
  exact z_loopI (fun m t (Y : z_MI) => f_Ho_refresh_L45 22 13 (z_n s) m (z_n t) (z_h S Y J P n)) 24
    (fun t Y => s < t ∧ (∀ a, (a < 23 ∨ 25 < a) → Y a = X a) ∧ (∀ j, j < 24 → Y 23 j = z_n (h_in (h_rs (h_nj I J)) r s (t - (s + 1)) j)) ∧ h_kn I J (fun u _ => h_pr s t u) Y)
    (fun q => ∃ Y, q = some ((), z_h S Y J P n) ∧ (∀ a, (a < 23 ∨ 25 < a) → Y a = X a) ∧ (∀ j, j < 24 → Y 23 j = z_n (h_in (h_rs (h_nj I J)) r s (23 - s) j)) ∧ h_kn I J (fun u _ => if u < s + 1 then 24 else s + 1) Y)
    (by
      intro m t Y ht ⟨q0, q1, q2, q3⟩
      have hY : ∀ a, (a < 22 ∨ 26 < a) → Y a = I a := fun a ha => (q1 a (by omega)).trans (hX a ha)
      obtain ⟨Z, a1, a2, a3⟩ := C_join (n := n) B hY q0 ht q3
      have nle := z_sum_le (fun a => if h_on I J s t a < z_ln I t then 1 else 0) 1 (z_ln I s) (fun a _ => by split <;> omega)
      have l12 : z_ln I s ≤ 12 := (B.qD hs).1
      change h_nj I J s t ≤ _ at nle
      have ek : t + 1 - (s + 1) = t - (s + 1) + 1 := by omega
      have et : s + 1 + (t - (s + 1)) = t := by omega
      by_cases c : h_nj I J s t < 2
      · refine ⟨Z, ⟨by omega, fun a ha => (a2 a (by omega) (by omega)).trans (q1 a ha), fun j hj => ?_, a3⟩, ?_⟩
        · rw [a2 23 (by decide) (by decide), q2 j hj, ek, h_in, et]
          unfold h_rs
          rw [if_pos c]
        · simp (disch := omega) only [f_Ho_refresh_L45, ht, hob, a1, c, or_true, true_or, or_false, false_or, z_b_T, z_b_F, Bool.false_eq_true, Classical.not_not, decide_eq_true_eq, z_sq, Option.bind_some, z_lits, z_n_add, z_n_mul, z_lt, z_le, z_eq, z_ne1, z_1ne, z_lt1, z_1lt, z_ltT, z_ltF, z_leT, z_leF, z_eqF, z_b_0, z_b_1, ↓reduceIte, eq_self, not_true_eq_false, not_false_eq_true, and_true, true_and, and_false, false_and, Nat.add_zero, Nat.zero_add]
      · have hr2 : ∀ j, j < 24 → h_in (h_rs (h_nj I J)) r s (t - (s + 1)) j < 24 ∧ Z 23 j = z_n (h_in (h_rs (h_nj I J)) r s (t - (s + 1)) j) := fun j hj => ⟨h_in_lt (fun i hi => (hr i hi).1) hs _ j hj, by rw [a2 23 (by decide) (by decide)]; exact q2 j hj⟩
        obtain ⟨W, b1, b2, b3⟩ := C_unite (J := J) (n := n) hS hP hs ht hr2
        refine ⟨W, ⟨by omega, fun a ha => (b2 a (by omega)).trans ((a2 a (by omega) (by omega)).trans (q1 a ha)), fun j hj => ?_, fun u a hu hth ha => ?_⟩, ?_⟩
        · rw [b3 j hj, ek, h_in, et]
          unfold h_rs
          rw [if_neg c]
        · rw [b2 24 (by decide), b2 25 (by decide)]; exact a3 u a hu hth ha
        · simp (disch := omega) only [f_Ho_refresh_L45, ht, hob, a1, c, b1, or_true, true_or, or_false, false_or, z_b_T, z_b_F, Bool.false_eq_true, Classical.not_not, decide_eq_true_eq, z_sq, Option.bind_some, z_lits, z_n_add, z_n_mul, z_lt, z_le, z_eq, z_ne1, z_1ne, z_lt1, z_1lt, z_ltT, z_ltF, z_leT, z_leF, z_eqF, z_b_0, z_b_1, ↓reduceIte, eq_self, not_true_eq_false, not_false_eq_true, and_true, true_and, and_false, false_and, Nat.add_zero, Nat.zero_add])
    (by
      intro m Y ⟨q0, q1, q2, q3⟩
      refine ⟨Y, ?_, q1, fun j hj => ?_, q3.eq fun u a hu hth ha => ?_⟩
      · simp (disch := omega) only [f_Ho_refresh_L45, Nat.lt_irrefl, or_true, true_or, or_false, false_or, z_b_T, z_b_F, Bool.false_eq_true, Classical.not_not, decide_eq_true_eq, z_sq, Option.bind_some, z_lits, z_n_add, z_n_mul, z_lt, z_le, z_eq, z_ne1, z_1ne, z_lt1, z_1lt, z_ltT, z_ltF, z_leT, z_leF, z_eqF, z_b_0, z_b_1, ↓reduceIte, eq_self, not_true_eq_false, not_false_eq_true, and_true, true_and, and_false, false_and, Nat.add_zero, Nat.zero_add]
      · rw [q2 j hj, show 24 - (s + 1) = 23 - s by omega]
      · unfold h_pr
        by_cases d1 : u < s
        · rw [if_pos d1, if_pos (by omega)]; exact ⟨rfl, rfl⟩
        · rw [if_neg d1]
          by_cases d2 : u = s
          · rw [if_pos d2, if_pos (by omega)]; exact ⟨rfl, rfl⟩
          · rw [if_neg d2, if_pos hu, if_neg (by omega)]; exact ⟨rfl, rfl⟩)
    q_FU (s + 1) X (by omega) (by rw [z_FU]; omega)
    ⟨by omega, fun _ _ => rfl, fun j hj => by rw [Nat.sub_self]; exact (hr j hj).2, hk.eq fun u a hu hth ha => by
      unfold h_pr
      by_cases d1 : u < s
      · rw [if_pos d1, if_pos d1]; exact ⟨rfl, rfl⟩
      · rw [if_neg d1, if_neg d1]
        by_cases d2 : u = s
        · subst d2
          rw [if_pos rfl, h_kf_self, h_kl_self]; exact ⟨rfl, rfl⟩
        · rw [if_neg d2, if_neg (by omega)]; exact ⟨rfl, rfl⟩⟩
set_option maxRecDepth 100000 in
set_option maxHeartbeats 4000000 in
theorem C_ref35 (B : z_B S I J P K n.1) (hX : ∀ a, (a < 22 ∨ 26 < a) → X a = I a) (hr : ∀ j, j < 24 → X 23 j = z_n j) (hk : h_kn I J (fun _ _ => 0) X) : ∃ Y, f_Ho_refresh_L35 22 13 q_FU (z_n 0) (z_h S X J P n) = some ((), z_h S Y J P n) ∧ (∀ a, (a < 23 ∨ 25 < a) → Y a = X a) ∧ (∀ j, j < 24 → Y 23 j = z_n (h_rc I J 24 j)) ∧ h_kn I J (fun _ _ => 24) Y := by
  exact z_runI (fun m s (Y : z_MI) => f_Ho_refresh_L35 22 13 m (z_n s) (z_h S Y J P n)) 24
    (fun s Y => (∀ a, (a < 23 ∨ 25 < a) → Y a = X a) ∧ (∀ j, j < 24 → Y 23 j = z_n (h_rc I J s j)) ∧ h_kn I J (fun u _ => if u < s then 24 else s) Y)
    (fun q => ∃ Y, q = some ((), z_h S Y J P n) ∧ (∀ a, (a < 23 ∨ 25 < a) → Y a = X a) ∧ (∀ j, j < 24 → Y 23 j = z_n (h_rc I J 24 j)) ∧ h_kn I J (fun _ _ => 24) Y) (by omega)
    (by
      intro m s Y hs ⟨q1, q2, q3⟩
      have hY : ∀ a, (a < 22 ∨ 26 < a) → Y a = I a := fun a ha => (q1 a (by omega)).trans (hX a ha)
      obtain ⟨Z, a1, a2, a3, a4⟩ := C_ref45 (n := n) B hY (r := h_rc I J s) hs (fun j hj => ⟨h_ou_lt s (by omega) j hj, q2 j hj⟩) q3
      refine ⟨Z, ⟨fun a ha => (a2 a ha).trans (q1 a ha), fun j hj => a3 j hj, a4⟩, ?_⟩
      simp (disch := omega) only [f_Ho_refresh_L35, hs, a1, or_true, true_or, or_false, false_or, z_b_T, z_b_F, Bool.false_eq_true, Classical.not_not, decide_eq_true_eq, z_sq, Option.bind_some, z_lits, z_n_add, z_n_mul, z_lt, z_le, z_eq, z_ne1, z_1ne, z_lt1, z_1lt, z_ltT, z_ltF, z_leT, z_leF, z_eqF, z_b_0, z_b_1, ↓reduceIte, eq_self, not_true_eq_false, not_false_eq_true, and_true, true_and, and_false, false_and, Nat.add_zero, Nat.zero_add])
    (by
      intro m Y ⟨q1, q2, q3⟩
      refine ⟨Y, ?_, q1, q2, q3.eq fun u a hu hth ha => by rw [if_pos hu]; exact ⟨rfl, rfl⟩⟩
      simp (disch := omega) only [f_Ho_refresh_L35, Nat.lt_irrefl, or_true, true_or, or_false, false_or, z_b_T, z_b_F, Bool.false_eq_true, Classical.not_not, decide_eq_true_eq, z_sq, Option.bind_some, z_lits, z_n_add, z_n_mul, z_lt, z_le, z_eq, z_ne1, z_1ne, z_lt1, z_1lt, z_ltT, z_ltF, z_leT, z_leF, z_eqF, z_b_0, z_b_1, ↓reduceIte, eq_self, not_true_eq_false, not_false_eq_true, and_true, true_and, and_false, false_and, Nat.add_zero, Nat.zero_add])
    (x := X) ⟨fun _ _ => rfl, hr, hk.eq fun u a hu hth ha => by rw [if_neg (Nat.not_lt_zero _)]; exact ⟨rfl, rfl⟩⟩
end
