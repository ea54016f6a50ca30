/-! LAW: the class's steps run. -/
/-- the class's code of all lines -/
def k_fcc : List (List Nat × (l_V → Int32)) → List Nat
  | [] => []
  | x :: r => x.1 ++ (20000 :: k_fcc r)
/-- whether one of them says so -/
def k_lw : List (List Nat × (l_V → Int32)) → l_V → Bool
  | [], _ => false
  | x :: r, v => !decide (x.2 v = z_n 0) || k_lw r v
section
variable {S : z_SH} {J : z_MJ} {P : z_MP} {n : Nat × Nat} {q c t m : Nat} {v : l_V}
set_option maxRecDepth 100000 in
set_option maxHeartbeats 4000000 in
theorem La_run (b : k_la S P q c t m) {z : Nat} (hm : z ≤ m) (m2 : m ≤ 1000) : ∀ (L : List Nat) {I : z_MI} {i : Nat} {st st' : List Int32}, I q 1 = z_n z → i + L.length ≤ z → (∀ j, j < L.length → I c (i + j) = z_n (L.getD j 0)) → (∀ j, j < 13 → I 35 j = v j) → k_sk (I t) st → st.length ≤ 32 → k_cr v L st = some st' →
    ∃ X, (∀ f, f_La_allows_L4 q 35 (f + L.length) (z_n st.length) (z_n i) (z_h S I J P n) = f_La_allows_L4 q 35 f (z_n st'.length) (z_n (i + L.length)) (z_h S X J P n)) ∧ (∀ a, a ≠ t → X a = I a) ∧ k_sk (X t) st' ∧ st'.length ≤ 32
  | [], I, i, st, st', _, _, _, _, hs, hl, h => by
    cases h
    exact ⟨I, fun _ => rfl, fun _ _ => rfl, hs, hl⟩
  | x :: r, I, i, st, st', hz, hi, hc, hv, hs, hl, h => by
    have ll : (x :: r).length = r.length + 1 := rfl
    rw [ll] at hi hc
    have h' : (k_c1 v x st).bind (k_cr v r) = some st' := h
    cases e : k_c1 v x st with
    | none => rw [e] at h'; cases h'
    | some st1 =>
      rw [e, Option.bind_some] at h'
      obtain ⟨b6, b7, b8, b9⟩ := b.2.2.2.2.2.1
      obtain ⟨X, a1, a2, a3, a4⟩ := La_1 (J := J) (n := n) (i := i) (x := x) b hz hm m2 (by omega) (hc 0 (by omega)) hv hs hl e
      obtain ⟨Y, c1, c2, c3, c4⟩ := La_run b hm m2 r (I := X) (i := i + 1) (by rw [a2 q (Ne.symm b7)]; exact hz) (by omega) (fun j hj => by
        rw [a2 c (Ne.symm b8), show i + 1 + j = i + (j + 1) by omega]; exact hc (j + 1) (by omega)) (fun j hj => by rw [a2 35 (Ne.symm b9)]; exact hv j hj) a3 a4 h'
      refine ⟨Y, fun f => ?_, fun a ha => (c2 a ha).trans (a2 a ha), c3, c4⟩
      rw [ll, ← Nat.add_assoc, a1, c1, show i + 1 + r.length = i + (r.length + 1) by omega]
set_option maxRecDepth 100000 in
set_option maxHeartbeats 4000000 in
theorem La_lines (b : k_la S P q c t m) {z : Nat} (hm : z ≤ m) (m2 : m ≤ 1000) : ∀ (L : List (List Nat × (l_V → Int32))) {I : z_MI} {i f : Nat}, (∀ x, x ∈ L → k_ec 32 x.1 x.2) → I q 1 = z_n z → i + (k_fcc L).length = z → (∀ j, j < (k_fcc L).length → I c (i + j) = z_n ((k_fcc L).getD j 0)) → (∀ j, j < 13 → I 35 j = v j) → (k_fcc L).length < f →
    ∃ X, f_La_allows_L4 q 35 f (z_n 0) (z_n i) (z_h S I J P n) = some ((if k_lw L v = true then .inl (z_n 1) else .inr ()), z_h S X J P n) ∧ (∀ a, a ≠ t → X a = I a)
  | [], I, i, 0, _, _, _, _, _, hf => absurd hf (by omega)
  | [], I, i, f + 1, _, hz, hi, hc, hv, hf => by
    have hi : i = z := hi
    subst hi
    refine ⟨I, ?_, fun _ _ => rfl⟩
    rw [f_La_allows_L4, z_gi b.1 rfl, hz, Option.bind_some, if_neg (by rw [z_lt (by omega) (by omega)]; omega)]
    rfl
  | x :: r, I, i, f, hx, hz, hi, hc, hv, hf => by
    obtain ⟨b6, b7, b8, b9⟩ := b.2.2.2.2.2.1
    obtain ⟨b1, b2, b3, b4, b5, -, b10⟩ := b
    have b : k_la S P q c t m := ⟨b1, b2, b3, b4, b5, ⟨b6, b7, b8, b9⟩, b10⟩
    have ll : (k_fcc (x :: r)).length = x.1.length + ((k_fcc r).length + 1) := by
      show (x.1 ++ (20000 :: k_fcc r)).length = _
      rw [List.length_append]; rfl
    have g1 : ∀ j, j < x.1.length → (k_fcc (x :: r)).getD j 0 = x.1.getD j 0 := fun j hj => by
      show (x.1 ++ (20000 :: k_fcc r)).getD j 0 = _
      rw [List.getD_eq_getElem?_getD, List.getD_eq_getElem?_getD, List.getElem?_append_left hj]
    have g2 : ∀ j, (k_fcc (x :: r)).getD (x.1.length + j) 0 = (20000 :: k_fcc r).getD j 0 := fun j => by
      show (x.1 ++ (20000 :: k_fcc r)).getD (x.1.length + j) 0 = _
      rw [List.getD_eq_getElem?_getD, List.getD_eq_getElem?_getD, List.getElem?_append_right (by omega), Nat.add_sub_cancel_left]
    rw [ll] at hi hc hf
    have ex := hx x (List.mem_cons_self ..)
    have e := ex v [] (by show 0 + 32 ≤ 32; omega)
    obtain ⟨X, a1, a2, a3, a4⟩ := La_run (J := J) (n := n) b hm m2 x.1 (I := I) (i := i) (st := []) hz (by omega) (fun j hj => by rw [hc j (by omega), g1 j hj]) hv trivial (by show 0 ≤ 32; omega) e
    obtain ⟨g, rfl⟩ : ∃ g, f = (g + 1) + x.1.length := ⟨f - 1 - x.1.length, by omega⟩
    have c0 := a1 (g + 1)
    have xz : X q 1 = z_n z := by rw [a2 q (Ne.symm b7)]; exact hz
    have xc : ∀ j, j < (k_fcc r).length + 1 → X c (i + x.1.length + j) = z_n ((20000 :: k_fcc r).getD j 0) := fun j hj => by
      rw [a2 c (Ne.symm b8), Nat.add_assoc, hc _ (by omega), g2]
    have s0 : X t 0 = x.2 v := a3.1
    have rz : q_gi (q_gf (z_h S X J P n) 6 q 1) = some (z_n z) := by rw [z_gi b1 rfl, xz]
    have g0 : q_gr (q_gf (z_h S X J P n) 6 q 0) = some c := z_gr b1 rfl b2
    have g3 : q_gr (q_gf (z_h S X J P n) 6 q 3) = some t := z_gr b1 rfl b3
    have lc : q_len' (z_h S X J P n) c = some (z_n m) := z_len b4 (by decide) (by rw [List.length_replicate])
    have rc : q_gi (q_ga (z_h S X J P n) 20 c (z_n (i + x.1.length))) = some (z_n 20000) := by rw [z_gia b4 (by omega) (z_rpl (by omega))]; exact congrArg some (xc 0 (by omega))
    have rt : q_gi (q_ga (z_h S X J P n) 20 t (z_n 0)) = some (x.2 v) := by rw [z_gia b5 (by omega) (z_rpl (by omega)), s0]
    have step : f_La_allows_L4 q 35 (g + 1) (z_n 1) (z_n (i + x.1.length)) (z_h S X J P n) = if x.2 v = z_n 0 then f_La_allows_L4 q 35 g (z_n 0) (z_n (i + x.1.length + 1)) (z_h S X J P n) else some (.inl (z_n 1), z_h S X J P n) := by
      rw [f_La_allows_L4, rz, Option.bind_some, if_pos (by rw [z_lt (by omega) (by omega)]; omega), g0, Option.bind_some, lc, Option.bind_some, if_pos (by rw [z_lt (by omega) (by omega)]; omega), Option.bind_some, rc, Option.bind_some, if_pos (show z_n 20000 = (20000 : Int32) from rfl), if_pos (show (0 : Int32) < z_n 1 by decide), g3, Option.bind_some, show z_n 1 - (1 : Int32) = z_n 0 by decide, rt, Option.bind_some, show z_n (i + x.1.length) + (1 : Int32) = z_n (i + x.1.length + 1) from z_n_add _ 1]
      rfl
    have c0 : f_La_allows_L4 q 35 (g + 1 + x.1.length) (z_n 0) (z_n i) (z_h S I J P n) = f_La_allows_L4 q 35 (g + 1) (z_n 1) (z_n (i + x.1.length)) (z_h S X J P n) := c0
    rw [c0, step]
    by_cases w0 : x.2 v = z_n 0
    · obtain ⟨Y, d1, d2⟩ := La_lines b hm m2 r (I := X) (i := i + x.1.length + 1) (f := g) (fun y hy => hx y (List.mem_cons_of_mem _ hy)) xz (by omega) (fun j hj => by
        rw [show i + x.1.length + 1 + j = i + x.1.length + (j + 1) by omega]; exact xc (j + 1) (by omega)) (fun j hj => by rw [a2 35 (Ne.symm b9)]; exact hv j hj) (by omega)
      refine ⟨Y, ?_, fun a ha => (d2 a ha).trans (a2 a ha)⟩
      rw [if_pos w0, d1]
      have : k_lw (x :: r) v = k_lw r v := by
        show (!decide (x.2 v = z_n 0) || k_lw r v) = _
        rw [decide_eq_true w0]; rfl
      rw [this]
    · refine ⟨X, ?_, a2⟩
      have : k_lw (x :: r) v = true := by
        show (!decide (x.2 v = z_n 0) || k_lw r v) = _
        rw [decide_eq_false w0]; rfl
      rw [if_neg w0, this, if_pos rfl]
end
set_option maxRecDepth 100000 in
set_option maxHeartbeats 4000000 in
theorem l_C_of {q c t m z : Nat} {g : Nat → Int32} {L : List (List Nat × (l_V → Int32))} (h : ∀ x, x ∈ L → k_ec 32 x.1 x.2) (hz : (k_fcc L).length = z) (hm : z ≤ m) (m2 : m ≤ 1000) (hg : ∀ j, j < z → g j = z_n ((k_fcc L).getD j 0)) : l_C q c t m z g (k_lw L) := by
  intro S I J P n v hS s1 p1 p2 i1 s2 i2 s3 tt i3
  have b : k_la S P q c t m := ⟨s1, p1, p2, s2, s3, tt, s_35 hS⟩
  obtain ⟨X, a1, a2⟩ := La_lines (J := J) (n := n) (v := v) b hm m2 L (I := I) (i := 0) (f := q_FU) h i1 (by omega) (fun j hj => by rw [Nat.zero_add, i2 j (by omega), hg j (by omega)]) i3 (by rw [z_FU]; omega)
  refine ⟨X, ?_, a2⟩
  unfold f_La_allows
  rw [show (0 : Int32) = z_n 0 from rfl, a1, z_sq]
  by_cases w : k_lw L v = true
  · rw [if_pos w, z_b_t w]
  · rw [if_neg w, z_b_f w]
