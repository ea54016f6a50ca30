/-! The law's own method: all calls. -/
/-- the script's cell -/
def w_sc (L : Nat) (xs : Nat → Int32) : q_C := (20, (List.range L).map fun i => .int (xs i))
theorem w_sc_at {L : Nat} {xs : Nat → Int32} {σ : q_H} (h : σ.1 0 = some (w_sc L xs)) {i : Nat} (hi : i < L) (hL : L < 2147483648) : q_gi (q_ga σ 20 0 (z_n i)) = some (xs i) := by
  have e : q_ob σ 20 0 = some ((List.range L).map fun i => .int (xs i)) := q_ob_some.mpr h
  unfold q_ga q_gf
  rw [if_neg (show ¬ z_n i < 0 by rw [show (0 : Int32) = z_n 0 from rfl, z_lt (by omega) (by omega)]; omega), z_n_nat (by omega), e, Option.bind_some, List.getElem?_map, List.getElem?_range hi]
  rfl
theorem w_sc_len {L : Nat} {xs : Nat → Int32} {σ : q_H} (h : σ.1 0 = some (w_sc L xs)) : q_len' σ 0 = some (z_n L) := by
  unfold q_len'
  rw [h]
  have e : (w_sc L xs).2.length = L := by
    show (List.map _ (List.range L)).length = L
    rw [List.length_map, List.length_range]
  show (if 20 ≤ (w_sc L xs).1 then some (w_sc L xs).2.length.toInt32 else none) = some (z_n L)
  rw [if_pos (show 20 ≤ (w_sc L xs).1 from Nat.le_refl 20), e]
  rfl
/-- what a call of the law reads of the heap -/
def w_H (sc : q_C) (σ : q_H) : Prop := σ.1 0 = some sc ∧ (∃ w, q_ob σ 0 8 = some w) ∧ ∃ w, q_ob σ 12 83 = some w
theorem w_H.R {L : Nat} {xs : Nat → Int32} {σ : q_H} (h : w_H (w_sc L xs) σ) {i : Nat} (hi : i + 7 ≤ L) (hL : L < 2147483648) : w_R σ (z_n i) (z_n L) (xs i) (xs (i + 1)) (xs (i + 2)) (xs (i + 3)) (xs (i + 4)) (xs (i + 5)) (xs (i + 6)) := by
  have r : ∀ j, j < 7 → q_gi (q_ga σ 20 0 (z_n i + z_n j)) = some (xs (i + j)) := fun j hj => by rw [z_n_add]; exact w_sc_at h.1 (by omega) hL
  exact ⟨w_sc_len h.1, ⟨w_sc_at h.1 (by omega) hL, r 1 (by omega), r 2 (by omega), r 3 (by omega), r 4 (by omega), r 5 (by omega), r 6 (by omega)⟩, h.2.1, h.2.2⟩
/-- what holds after N calls -/
def w_I (m N : Nat) (sc : q_C) (σ : q_H) : Prop := ∃ (S : z_SH) (I : z_MI) (J : z_MJ) (P : z_MP) (K : Nat → Bool) (n : Nat × Nat) (g : Nat → Option q_C) (y : Int64), σ = q_pt g (z_h S I J P n) ∧ Inv S I J P K n.1 ∧ (S 0 = none ∧ S 130 = none) ∧ (g 0 = some sc ∧ g 130 = some (21, [.long y])) ∧ n.1 ≤ 131 + 60 * N ∧ n.2 ≤ m + 3000 * N
section
variable {S : z_SH} {I : z_MI} {J : z_MJ} {P : z_MP} {K : Nat → Bool} {n : Nat × Nat} {g : Nat → Option q_C} {sc : q_C} {m N : Nat} {fo : Option Nat} {d y1 y2 : Nat} {as1 as2 : List Value}
theorem w_no {a : Nat} (h : S a = none) : (z_h S I J P n).1 a = none := by
  show (S a).map _ = none
  rw [h]; rfl
theorem w_no' {a : Nat} (h : (z_h S I J P n).1 a = none) : S a = none := Option.map_eq_none_iff.mp h
theorem w_H_of (hS : z_St S) (h0 : S 0 = none) (hg : g 0 = some sc) : w_H sc (q_pt g (z_h S I J P n)) :=
  ⟨(q_pt_no (w_no h0)).trans hg, ⟨_, q_ob_pt (z_ob (s_8 hS))⟩, ⟨_, q_ob_pt (z_ob (s_83 hS))⟩⟩
theorem w_I.H {σ : q_H} (W : w_I m N sc σ) : w_H sc σ := by
  obtain ⟨S, I, J, P, K, n, g, y, rfl, H, ⟨s0, -⟩, ⟨g0, -⟩, -⟩ := W
  exact w_H_of H.1.qS s0 g0
set_option maxRecDepth 100000 in
theorem w_stp {T : Type} (V : T → Value) {fc fm : q_H → Option (T × q_H)} {σ : q_H} (W : w_I m N sc σ) (hc : ∀ {S : z_SH} {I : z_MI} {J : z_MJ} {P : z_MP} {K : Nat → Bool} {n : Nat × Nat}, Inv S I J P K n.1 → z_call fc fm S I J P n)
    (tc : ∀ {σ : q_H} {r : T} {σ1 : q_H}, fc σ = some (r, σ1) → q_Rel (q_rf fo) q_Ms d y1 as1 σ (.inl (some (V r))) σ1) (tm : ∀ {σ : q_H} {r : T} {σ1 : q_H}, fm σ = some (r, σ1) → q_Rel (q_rf fo) q_Ms d y2 as2 σ (.inl (some (V r))) σ1) :
    ∃ (r : T) (σ1 σ2 : q_H), q_Rel (q_rf fo) q_Ms d y1 as1 σ (.inl (some (V r))) σ1 ∧ q_Rel (q_rf fo) q_Ms d y2 as2 σ1 (.inl (some (V r))) σ2 ∧ w_H sc σ1 ∧ w_I m (N + 1) sc σ2 := by
  obtain ⟨S, I, J, P, K, n, g, y, rfl, H, ⟨s0, s130⟩, ⟨g0, g130⟩, n1, n2⟩ := W
  obtain ⟨r, S', I', J', P', n', K', I2, J2, h1, h2, ⟨b1, b2, b3⟩, H'⟩ := hc H
  have n131 : 131 ≤ n.1 := H.1.2.2.1.1
  have c1 := tc h1
  have kp := q_Rel_kp c1
  have s0' : S' 0 = none := w_no' (kp.2 0 (show 0 < n.1 by omega) (w_no s0))
  have s130' : S' 130 = none := w_no' (kp.2 130 (show 130 < n.1 by omega) (w_no s130))
  exact ⟨r, _, _, q_Rel_pt c1, q_Rel_pt (tm h2), w_H_of H'.1.qS s0' g0, S', I2, J2, P', K', n', g, y, rfl, H', ⟨s0', s130'⟩, ⟨g0, g130⟩, by omega, by omega⟩
set_option maxRecDepth 100000 in
theorem w_sttp {fc : q_H → Option (Option Int32 × q_H)} {fm : q_H → Option (Int32 × q_H)} {σ : q_H} (W : w_I m N sc σ) (hc : ∀ {S : z_SH} {I : z_MI} {J : z_MJ} {P : z_MP} {K : Nat → Bool} {n : Nat × Nat}, Inv S I J P K n.1 → z_callt fc fm S I J P n)
    (tc : ∀ {σ : q_H} {r : Int32} {σ1 : q_H}, fc σ = some (some r, σ1) → q_Rel (q_rf fo) q_Ms d y1 as1 σ (.inl (some (.int r))) σ1) (tx : ∀ {σ : q_H} {σ1 : q_H}, fc σ = some (none, σ1) → q_Rel (q_rf fo) q_Ms d y1 as1 σ (.inr (σ1.2.1 - 1)) σ1)
    (tm : ∀ {σ : q_H} {r : Int32} {σ1 : q_H}, fm σ = some (r, σ1) → q_Rel (q_rf fo) q_Ms (d + 1) y2 as2 σ (.inl (some (.int r))) σ1) :
    (∃ (r : Int32) (σ1 σ1' σ2 : q_H), q_Rel (q_rf fo) q_Ms d y1 as1 σ (.inl (some (.int r))) σ1 ∧ q_sa σ1 21 130 (0 : Int32) (.long r.toInt64) = some σ1' ∧ q_Rel (q_rf fo) q_Ms (d + 1) y2 as2 σ1' (.inl (some (.int r))) σ2 ∧ w_H sc σ1' ∧ w_I m (N + 1) sc σ2 ∧ f_Mo_thrown 83 σ2 = some ((0 : Int32), σ2) ∧ q_gl' (q_ga σ2 21 130 (0 : Int32)) = some r.toInt64) ∨
    (∃ (q : Nat) (r : Int32) (σ1 σ2 : q_H), q_Rel (q_rf fo) q_Ms d y1 as1 σ (.inr q) σ1 ∧ q_Rel (q_rf fo) q_Ms (d + 1) y2 as2 σ1 (.inl (some (.int r))) σ2 ∧ w_H sc σ1 ∧ w_I m (N + 1) sc σ2 ∧ f_Mo_thrown 83 σ2 = some ((1 : Int32), σ2)) := by
  obtain ⟨S, I, J, P, K, n, g, y, rfl, H, ⟨s0, s130⟩, ⟨g0, g130⟩, n1, n2⟩ := W
  obtain ⟨r, r2, S', I', J', P', n', K', I2, J2, h1, h2, ⟨b1, b2, b3⟩, H', q⟩ := hc H
  have n131 : 131 ≤ n.1 := H.1.2.2.1.1
  have hS' := H'.1.qS
  have thr : ∀ (g : Nat → Option q_C) (v : Int32), I2 83 0 = v → f_Mo_thrown 83 (q_pt g (z_h S' I2 J2 P' n')) = some (v, q_pt g (z_h S' I2 J2 P' n')) := fun g v hv => by
    unfold f_Mo_thrown
    have e : q_gf (z_h S' I2 J2 P' n') 12 83 0 = some (.int v) := q_gi_some (by rw [z_gi (s_83 hS') rfl, hv])
    rw [q_gf_pt e]
    rfl
  cases r with
  | some x =>
    obtain ⟨q1, q2⟩ := q
    subst q1
    have c1 := tc h1
    have kp := q_Rel_kp c1
    have s0' : S' 0 = none := w_no' (kp.2 0 (show 0 < n.1 by omega) (w_no s0))
    have s130' : S' 130 = none := w_no' (kp.2 130 (show 130 < n.1 by omega) (w_no s130))
    have e1 : (q_pt g (z_h S' I' J' P' n')).1 130 = some (21, [.long y]) := (q_pt_no (w_no s130')).trans g130
    have e2 : q_sa (q_pt g (z_h S' I' J' P' n')) 21 130 (0 : Int32) (.long r2.toInt64) = some (q_pt (fun q => if q = 130 then some (21, [.long r2.toInt64]) else g q) (z_h S' I' J' P' n')) := by
      unfold q_sa q_sf
      rw [if_neg (show ¬ (0 : Int32) < 0 by decide), q_ob_some.mpr e1, Option.bind_some, if_pos (show 8 ≤ 130 ∧ (0 : Int32).toNatClampNeg < [Value.long y].length from ⟨by decide, by show (0 : Int32).toNatClampNeg < 1; decide⟩)]
      refine congrArg some (Prod.ext (funext fun q => ?_) rfl)
      show (if q = 130 then some (21, [Value.long r2.toInt64]) else match (z_h S' I' J' P' n').1 q with | some x => some x | none => g q) = match (z_h S' I' J' P' n').1 q with | some x => some x | none => if q = 130 then some (21, [.long r2.toInt64]) else g q
      by_cases e : q = 130
      · subst e
        rw [if_pos rfl, w_no s130', if_pos rfl]
      · rw [if_neg e, if_neg e]
    refine Or.inl ⟨r2, _, _, _, q_Rel_pt c1, e2, q_Rel_pt (tm h2), w_H_of hS' s0' ((if_neg (by decide)).trans g0), ⟨S', I2, J2, P', K', n', _, r2.toInt64, rfl, H', ⟨s0', s130'⟩, ⟨(if_neg (by decide)).trans g0, if_pos rfl⟩, by omega, by omega⟩, thr _ _ q2, ?_⟩
    have e3 : (q_pt (fun q => if q = 130 then some (21, [.long r2.toInt64]) else g q) (z_h S' I2 J2 P' n')).1 130 = some (21, [.long r2.toInt64]) := (q_pt_no (w_no s130')).trans (if_pos rfl)
    unfold q_ga q_gf
    rw [if_neg (show ¬ (0 : Int32) < 0 by decide), q_ob_some.mpr e3]
    rfl
  | none =>
    have q : I2 83 0 = z_n 1 := q
    have c1 := tx h1
    have kp := q_Rel_kp c1
    have s0' : S' 0 = none := w_no' (kp.2 0 (show 0 < n.1 by omega) (w_no s0))
    have s130' : S' 130 = none := w_no' (kp.2 130 (show 130 < n.1 by omega) (w_no s130))
    exact Or.inr ⟨_, r2, _, _, q_Rel_pt c1, q_Rel_pt (tm h2), w_H_of hS' s0' g0, ⟨S', I2, J2, P', K', n', g, y, rfl, H', ⟨s0', s130'⟩, ⟨g0, g130⟩, by omega, by omega⟩, thr _ _ q⟩
end
theorem w_lt {L i : Nat} (hL : L < 2147483648) (hi : i ≤ L) : (z_n L - (7 : Int32)) < z_n i ↔ L < i + 7 := by
  by_cases h : 7 ≤ L
  · rw [show (7 : Int32) = z_n 7 from rfl, z_n_sub h, z_lt (by omega) (by omega)]; omega
  · refine ⟨fun _ => by omega, fun _ => ?_⟩
    have k : ∀ L i : Nat, L < 7 → i < 7 → (z_n L - (7 : Int32)) < z_n i := by
      intro L i h1 h2
      have h3 : ∀ L, L < 7 → ∀ i, i < 7 → (z_n L - (7 : Int32)) < z_n i := by decide
      exact h3 L h1 i h2
    exact k L i (by omega) (by omega)

section
variable {fo : Option Nat} {d : Nat} {o : q_O} {σ' : q_H} {L m N : Nat} {xs : Nat → Int32} {σ : q_H}
theorem w_d0 {F : q_H → Prop} (hd : 70 ≤ d) (hL : L < 2147483648) (hi : 7 * N + 7 ≤ L) (W : w_I m N (w_sc L xs) σ) (go : ∀ σ2, w_I m (N + 1) (w_sc L xs) σ2 → ∃ σ3, F σ3 ∧ w_K fo d (.inl (some (.int 1))) σ3 (z_n (7 * N) + (7 : Int32)) σ2) (h4 : (xs (7 * N) &&& (63 : Int32)) = (0 : Int32)) : ∃ σ3, F σ3 ∧ w_K fo d (.inl (some (.int 1))) σ3 (z_n (7 * N)) σ := by
  have R0 := W.H.R hi hL
  obtain ⟨r, σ1, σ2, c1, c2, R1, W2⟩ := w_stp (fo := fo) (d := d) .int W (fun H => X_side H (xs (7 * N + 1)) (xs (7 * N + 2))) (fun h => t_Rs_side (by omega) h) (fun h => t_Mo_side (by omega) h)
  obtain ⟨σ3, f, g⟩ := go σ2 W2
  exact ⟨σ3, f, w_c0 (fun e => absurd ((w_lt hL (by omega)).mp e) (by omega)) R0 h4 c1 (R1.R hi hL) c2 g⟩
theorem w_d1 {F : q_H → Prop} (hd : 70 ≤ d) (hL : L < 2147483648) (hi : 7 * N + 7 ≤ L) (W : w_I m N (w_sc L xs) σ) (go : ∀ σ2, w_I m (N + 1) (w_sc L xs) σ2 → ∃ σ3, F σ3 ∧ w_K fo d (.inl (some (.int 1))) σ3 (z_n (7 * N) + (7 : Int32)) σ2) (h4 : (xs (7 * N) &&& (63 : Int32)) = (1 : Int32)) : ∃ σ3, F σ3 ∧ w_K fo d (.inl (some (.int 1))) σ3 (z_n (7 * N)) σ := by
  have R0 := W.H.R hi hL
  obtain ⟨r, σ1, σ2, c1, c2, R1, W2⟩ := w_stp (fo := fo) (d := d) .int W (fun H => X_sheet H (xs (7 * N + 1)) (xs (7 * N + 2)) (xs (7 * N + 3))) (fun h => t_Rs_sheet (by omega) h) (fun h => t_Mo_sheet (by omega) h)
  obtain ⟨σ3, f, g⟩ := go σ2 W2
  exact ⟨σ3, f, w_c1 (fun e => absurd ((w_lt hL (by omega)).mp e) (by omega)) R0 h4 c1 (R1.R hi hL) c2 g⟩
theorem w_d2 {F : q_H → Prop} (hd : 70 ≤ d) (hL : L < 2147483648) (hi : 7 * N + 7 ≤ L) (W : w_I m N (w_sc L xs) σ) (go : ∀ σ2, w_I m (N + 1) (w_sc L xs) σ2 → ∃ σ3, F σ3 ∧ w_K fo d (.inl (some (.int 1))) σ3 (z_n (7 * N) + (7 : Int32)) σ2) (h4 : (xs (7 * N) &&& (63 : Int32)) = (2 : Int32)) : ∃ σ3, F σ3 ∧ w_K fo d (.inl (some (.int 1))) σ3 (z_n (7 * N)) σ := by
  have R0 := W.H.R hi hL
  obtain ⟨r, σ1, σ2, c1, c2, R1, W2⟩ := w_stp (fo := fo) (d := d) .int W (fun H => X_may H (xs (7 * N + 1)) (xs (7 * N + 2))) (fun h => t_Rs_may (by omega) h) (fun h => t_Mo_may (by omega) h)
  obtain ⟨σ3, f, g⟩ := go σ2 W2
  exact ⟨σ3, f, w_c2 (fun e => absurd ((w_lt hL (by omega)).mp e) (by omega)) R0 h4 c1 (R1.R hi hL) c2 g⟩
theorem w_d3 {F : q_H → Prop} (hd : 70 ≤ d) (hL : L < 2147483648) (hi : 7 * N + 7 ≤ L) (W : w_I m N (w_sc L xs) σ) (go : ∀ σ2, w_I m (N + 1) (w_sc L xs) σ2 → ∃ σ3, F σ3 ∧ w_K fo d (.inl (some (.int 1))) σ3 (z_n (7 * N) + (7 : Int32)) σ2) (h4 : (xs (7 * N) &&& (63 : Int32)) = (3 : Int32)) : ∃ σ3, F σ3 ∧ w_K fo d (.inl (some (.int 1))) σ3 (z_n (7 * N)) σ := by
  have R0 := W.H.R hi hL
  obtain ⟨r, σ1, σ2, c1, c2, R1, W2⟩ := w_stp (fo := fo) (d := d) .int W (fun H => X_feed H (((xs (7 * N + 1)).toInt64 <<< ((32 : Int32).toInt64 &&& 63)) ||| ((xs (7 * N + 2)).toInt64 &&& (4294967295 : Int64))) (((xs (7 * N + 3)).toInt64 <<< ((32 : Int32).toInt64 &&& 63)) ||| ((xs (7 * N + 4)).toInt64 &&& (4294967295 : Int64))) (((xs (7 * N + 5)).toInt64 <<< ((32 : Int32).toInt64 &&& 63)) ||| ((xs (7 * N + 6)).toInt64 &&& (4294967295 : Int64)))) (fun h => t_Rs_feed (by omega) h) (fun h => t_Mo_feed (by omega) h)
  obtain ⟨σ3, f, g⟩ := go σ2 W2
  exact ⟨σ3, f, w_c3 (fun e => absurd ((w_lt hL (by omega)).mp e) (by omega)) R0 h4 c1 (R1.R hi hL) c2 g⟩
theorem w_d4 {F : q_H → Prop} (hd : 70 ≤ d) (hL : L < 2147483648) (hi : 7 * N + 7 ≤ L) (W : w_I m N (w_sc L xs) σ) (go : ∀ σ2, w_I m (N + 1) (w_sc L xs) σ2 → ∃ σ3, F σ3 ∧ w_K fo d (.inl (some (.int 1))) σ3 (z_n (7 * N) + (7 : Int32)) σ2) (h4 : (xs (7 * N) &&& (63 : Int32)) = (4 : Int32)) : ∃ σ3, F σ3 ∧ w_K fo d (.inl (some (.int 1))) σ3 (z_n (7 * N)) σ := by
  have R0 := W.H.R hi hL
  obtain ⟨r, σ1, σ2, c1, c2, R1, W2⟩ := w_stp (fo := fo) (d := d) .int W (fun H => X_read H (xs (7 * N + 1))) (fun h => t_Rs_read (by omega) h) (fun h => t_Mo_read (by omega) h)
  obtain ⟨σ3, f, g⟩ := go σ2 W2
  exact ⟨σ3, f, w_c4 (fun e => absurd ((w_lt hL (by omega)).mp e) (by omega)) R0 h4 c1 (R1.R hi hL) c2 g⟩
theorem w_d5 {F : q_H → Prop} (hd : 70 ≤ d) (hL : L < 2147483648) (hi : 7 * N + 7 ≤ L) (W : w_I m N (w_sc L xs) σ) (go : ∀ σ2, w_I m (N + 1) (w_sc L xs) σ2 → ∃ σ3, F σ3 ∧ w_K fo d (.inl (some (.int 1))) σ3 (z_n (7 * N) + (7 : Int32)) σ2) (h4 : (xs (7 * N) &&& (63 : Int32)) = (5 : Int32)) : ∃ σ3, F σ3 ∧ w_K fo d (.inl (some (.int 1))) σ3 (z_n (7 * N)) σ := by
  have R0 := W.H.R hi hL
  obtain ⟨r, σ1, σ2, c1, c2, R1, W2⟩ := w_stp (fo := fo) (d := d) .int W (fun H => X_forget H (xs (7 * N + 1))) (fun h => t_Rs_forget (by omega) h) (fun h => t_Mo_forget (by omega) h)
  obtain ⟨σ3, f, g⟩ := go σ2 W2
  exact ⟨σ3, f, w_c5 (fun e => absurd ((w_lt hL (by omega)).mp e) (by omega)) R0 h4 c1 (R1.R hi hL) c2 g⟩
theorem w_d6 {F : q_H → Prop} (hd : 70 ≤ d) (hL : L < 2147483648) (hi : 7 * N + 7 ≤ L) (W : w_I m N (w_sc L xs) σ) (go : ∀ σ2, w_I m (N + 1) (w_sc L xs) σ2 → ∃ σ3, F σ3 ∧ w_K fo d (.inl (some (.int 1))) σ3 (z_n (7 * N) + (7 : Int32)) σ2) (h4 : (xs (7 * N) &&& (63 : Int32)) = (6 : Int32)) : ∃ σ3, F σ3 ∧ w_K fo d (.inl (some (.int 1))) σ3 (z_n (7 * N)) σ := by
  have R0 := W.H.R hi hL
  obtain ⟨r, σ1, σ2, c1, c2, R1, W2⟩ := w_stp (fo := fo) (d := d) .int W (fun H => (X_lines H.1 (xs (7 * N + 1))).go H) (fun h => t_Rs_lines (by omega) h) (fun h => t_Mo_lines (by omega) h)
  obtain ⟨σ3, f, g⟩ := go σ2 W2
  exact ⟨σ3, f, w_c6 (fun e => absurd ((w_lt hL (by omega)).mp e) (by omega)) R0 h4 c1 (R1.R hi hL) c2 g⟩
theorem w_d7 {F : q_H → Prop} (hd : 70 ≤ d) (hL : L < 2147483648) (hi : 7 * N + 7 ≤ L) (W : w_I m N (w_sc L xs) σ) (go : ∀ σ2, w_I m (N + 1) (w_sc L xs) σ2 → ∃ σ3, F σ3 ∧ w_K fo d (.inl (some (.int 1))) σ3 (z_n (7 * N) + (7 : Int32)) σ2) (h4 : (xs (7 * N) &&& (63 : Int32)) = (7 : Int32)) : ∃ σ3, F σ3 ∧ w_K fo d (.inl (some (.int 1))) σ3 (z_n (7 * N)) σ := by
  obtain ⟨d, rfl⟩ : ∃ e, d = e + 1 := ⟨d - 1, by omega⟩
  have R0 := W.H.R hi hL
  obtain ⟨w, hw⟩ := W.H.2.1
  rcases w_sttp (fo := fo) (d := d) W (fun H => (X_line H.1 (xs (7 * N + 1)) (xs (7 * N + 2)) (xs (7 * N + 3))).go H) (fun h => t_Rs_line (by omega) h) (fun h => t_Rs_line_x (by omega) h) (fun h => t_Mo_line (by omega) h) with ⟨r, σ1, σ1', σ2, c1, hs, c2, R1, W2, ht, ho⟩ | ⟨q, r, σ1, σ2, c1, c2, R1, W2, ht⟩
  · obtain ⟨σ3, f, g⟩ := go σ2 W2
    exact ⟨σ3, f, w_c7a (fun e => absurd ((w_lt hL (by omega)).mp e) (by omega)) R0 h4 (w_line0 hw c1 hs) (R1.R hi hL) c2 W2.H.2.2 (t_Mo_thrown (by omega) ht) ho g⟩
  · obtain ⟨σ3, f, g⟩ := go σ2 W2
    exact ⟨σ3, f, w_c7b (fun e => absurd ((w_lt hL (by omega)).mp e) (by omega)) R0 h4 (w_line1 hw c1) (R1.R hi hL) c2 W2.H.2.2 (t_Mo_thrown (by omega) ht) g⟩
theorem w_d8 {F : q_H → Prop} (hd : 70 ≤ d) (hL : L < 2147483648) (hi : 7 * N + 7 ≤ L) (W : w_I m N (w_sc L xs) σ) (go : ∀ σ2, w_I m (N + 1) (w_sc L xs) σ2 → ∃ σ3, F σ3 ∧ w_K fo d (.inl (some (.int 1))) σ3 (z_n (7 * N) + (7 : Int32)) σ2) (h4 : (xs (7 * N) &&& (63 : Int32)) = (8 : Int32)) : ∃ σ3, F σ3 ∧ w_K fo d (.inl (some (.int 1))) σ3 (z_n (7 * N)) σ := by
  have R0 := W.H.R hi hL
  obtain ⟨r, σ1, σ2, c1, c2, R1, W2⟩ := w_stp (fo := fo) (d := d) .int W (fun H => (X_kin H.1 (xs (7 * N + 1)) (xs (7 * N + 2)) (xs (7 * N + 3))).go H) (fun h => t_Rs_kin (by omega) h) (fun h => t_Mo_kin (by omega) h)
  obtain ⟨σ3, f, g⟩ := go σ2 W2
  exact ⟨σ3, f, w_c8 (fun e => absurd ((w_lt hL (by omega)).mp e) (by omega)) R0 h4 c1 (R1.R hi hL) c2 g⟩
theorem w_d9 {F : q_H → Prop} (hd : 70 ≤ d) (hL : L < 2147483648) (hi : 7 * N + 7 ≤ L) (W : w_I m N (w_sc L xs) σ) (go : ∀ σ2, w_I m (N + 1) (w_sc L xs) σ2 → ∃ σ3, F σ3 ∧ w_K fo d (.inl (some (.int 1))) σ3 (z_n (7 * N) + (7 : Int32)) σ2) (h4 : (xs (7 * N) &&& (63 : Int32)) = (9 : Int32)) : ∃ σ3, F σ3 ∧ w_K fo d (.inl (some (.int 1))) σ3 (z_n (7 * N)) σ := by
  have R0 := W.H.R hi hL
  obtain ⟨r, σ1, σ2, c1, c2, R1, W2⟩ := w_stp (fo := fo) (d := d) .int W (fun H => (X_sort H.1 (xs (7 * N + 1)) (xs (7 * N + 2))).go H) (fun h => t_Rs_sort (by omega) h) (fun h => t_Mo_sort (by omega) h)
  obtain ⟨σ3, f, g⟩ := go σ2 W2
  exact ⟨σ3, f, w_c9 (fun e => absurd ((w_lt hL (by omega)).mp e) (by omega)) R0 h4 c1 (R1.R hi hL) c2 g⟩
theorem w_d10 {F : q_H → Prop} (hd : 70 ≤ d) (hL : L < 2147483648) (hi : 7 * N + 7 ≤ L) (W : w_I m N (w_sc L xs) σ) (go : ∀ σ2, w_I m (N + 1) (w_sc L xs) σ2 → ∃ σ3, F σ3 ∧ w_K fo d (.inl (some (.int 1))) σ3 (z_n (7 * N) + (7 : Int32)) σ2) (h4 : (xs (7 * N) &&& (63 : Int32)) = (10 : Int32)) : ∃ σ3, F σ3 ∧ w_K fo d (.inl (some (.int 1))) σ3 (z_n (7 * N)) σ := by
  have R0 := W.H.R hi hL
  obtain ⟨r, σ1, σ2, c1, c2, R1, W2⟩ := w_stp (fo := fo) (d := d) .int W (fun H => (X_marriages H.1 (xs (7 * N + 1)) (xs (7 * N + 2)) (xs (7 * N + 3))).go H) (fun h => t_Rs_marriages (by omega) h) (fun h => t_Mo_marriages (by omega) h)
  obtain ⟨σ3, f, g⟩ := go σ2 W2
  exact ⟨σ3, f, w_c10 (fun e => absurd ((w_lt hL (by omega)).mp e) (by omega)) R0 h4 c1 (R1.R hi hL) c2 g⟩
theorem w_d11 {F : q_H → Prop} (hd : 70 ≤ d) (hL : L < 2147483648) (hi : 7 * N + 7 ≤ L) (W : w_I m N (w_sc L xs) σ) (go : ∀ σ2, w_I m (N + 1) (w_sc L xs) σ2 → ∃ σ3, F σ3 ∧ w_K fo d (.inl (some (.int 1))) σ3 (z_n (7 * N) + (7 : Int32)) σ2) (h4 : (xs (7 * N) &&& (63 : Int32)) = (11 : Int32)) : ∃ σ3, F σ3 ∧ w_K fo d (.inl (some (.int 1))) σ3 (z_n (7 * N)) σ := by
  have R0 := W.H.R hi hL
  obtain ⟨r, σ1, σ2, c1, c2, R1, W2⟩ := w_stp (fo := fo) (d := d) .int W (fun H => (X_share H.1 (xs (7 * N + 1)) (xs (7 * N + 2)) (xs (7 * N + 3)) (xs (7 * N + 4))).go H) (fun h => t_Rs_share (by omega) h) (fun h => t_Mo_share (by omega) h)
  obtain ⟨σ3, f, g⟩ := go σ2 W2
  exact ⟨σ3, f, w_c11 (fun e => absurd ((w_lt hL (by omega)).mp e) (by omega)) R0 h4 c1 (R1.R hi hL) c2 g⟩
theorem w_d12 {F : q_H → Prop} (hd : 70 ≤ d) (hL : L < 2147483648) (hi : 7 * N + 7 ≤ L) (W : w_I m N (w_sc L xs) σ) (go : ∀ σ2, w_I m (N + 1) (w_sc L xs) σ2 → ∃ σ3, F σ3 ∧ w_K fo d (.inl (some (.int 1))) σ3 (z_n (7 * N) + (7 : Int32)) σ2) (h4 : (xs (7 * N) &&& (63 : Int32)) = (12 : Int32)) : ∃ σ3, F σ3 ∧ w_K fo d (.inl (some (.int 1))) σ3 (z_n (7 * N)) σ := by
  obtain ⟨d, rfl⟩ : ∃ e, d = e + 1 := ⟨d - 1, by omega⟩
  have R0 := W.H.R hi hL
  obtain ⟨w, hw⟩ := W.H.2.1
  rcases w_sttp (fo := fo) (d := d) W (fun H => (X_move H.1 (xs (7 * N + 1)) (xs (7 * N + 2))).go H) (fun h => t_Rs_move (by omega) h) (fun h => t_Rs_move_x (by omega) h) (fun h => t_Mo_move (by omega) h) with ⟨r, σ1, σ1', σ2, c1, hs, c2, R1, W2, ht, ho⟩ | ⟨q, r, σ1, σ2, c1, c2, R1, W2, ht⟩
  · obtain ⟨σ3, f, g⟩ := go σ2 W2
    exact ⟨σ3, f, w_c12a (fun e => absurd ((w_lt hL (by omega)).mp e) (by omega)) R0 h4 (w_move0 hw c1 hs) (R1.R hi hL) c2 W2.H.2.2 (t_Mo_thrown (by omega) ht) ho g⟩
  · obtain ⟨σ3, f, g⟩ := go σ2 W2
    exact ⟨σ3, f, w_c12b (fun e => absurd ((w_lt hL (by omega)).mp e) (by omega)) R0 h4 (w_move1 hw c1) (R1.R hi hL) c2 W2.H.2.2 (t_Mo_thrown (by omega) ht) g⟩
theorem w_d13 {F : q_H → Prop} (hd : 70 ≤ d) (hL : L < 2147483648) (hi : 7 * N + 7 ≤ L) (W : w_I m N (w_sc L xs) σ) (go : ∀ σ2, w_I m (N + 1) (w_sc L xs) σ2 → ∃ σ3, F σ3 ∧ w_K fo d (.inl (some (.int 1))) σ3 (z_n (7 * N) + (7 : Int32)) σ2) (h4 : (xs (7 * N) &&& (63 : Int32)) = (13 : Int32)) : ∃ σ3, F σ3 ∧ w_K fo d (.inl (some (.int 1))) σ3 (z_n (7 * N)) σ := by
  have R0 := W.H.R hi hL
  obtain ⟨r, σ1, σ2, c1, c2, R1, W2⟩ := w_stp (fo := fo) (d := d) .int W (fun H => (X_mover H.1 ).go H) (fun h => t_Rs_mover (by omega) h) (fun h => t_Mo_mover (by omega) h)
  obtain ⟨σ3, f, g⟩ := go σ2 W2
  exact ⟨σ3, f, w_c13 (fun e => absurd ((w_lt hL (by omega)).mp e) (by omega)) R0 h4 c1 (R1.R hi hL) c2 g⟩
theorem w_d14 {F : q_H → Prop} (hd : 70 ≤ d) (hL : L < 2147483648) (hi : 7 * N + 7 ≤ L) (W : w_I m N (w_sc L xs) σ) (go : ∀ σ2, w_I m (N + 1) (w_sc L xs) σ2 → ∃ σ3, F σ3 ∧ w_K fo d (.inl (some (.int 1))) σ3 (z_n (7 * N) + (7 : Int32)) σ2) (h4 : (xs (7 * N) &&& (63 : Int32)) = (14 : Int32)) : ∃ σ3, F σ3 ∧ w_K fo d (.inl (some (.int 1))) σ3 (z_n (7 * N)) σ := by
  obtain ⟨d, rfl⟩ : ∃ e, d = e + 1 := ⟨d - 1, by omega⟩
  have R0 := W.H.R hi hL
  obtain ⟨w, hw⟩ := W.H.2.1
  rcases w_sttp (fo := fo) (d := d) W (fun H => (X_lean H.1 (xs (7 * N + 1))).go H) (fun h => t_Rs_lean (by omega) h) (fun h => t_Rs_lean_x (by omega) h) (fun h => t_Mo_lean (by omega) h) with ⟨r, σ1, σ1', σ2, c1, hs, c2, R1, W2, ht, ho⟩ | ⟨q, r, σ1, σ2, c1, c2, R1, W2, ht⟩
  · obtain ⟨σ3, f, g⟩ := go σ2 W2
    exact ⟨σ3, f, w_c14a (fun e => absurd ((w_lt hL (by omega)).mp e) (by omega)) R0 h4 (w_lean0 hw c1 hs) (R1.R hi hL) c2 W2.H.2.2 (t_Mo_thrown (by omega) ht) ho g⟩
  · obtain ⟨σ3, f, g⟩ := go σ2 W2
    exact ⟨σ3, f, w_c14b (fun e => absurd ((w_lt hL (by omega)).mp e) (by omega)) R0 h4 (w_lean1 hw c1) (R1.R hi hL) c2 W2.H.2.2 (t_Mo_thrown (by omega) ht) g⟩
theorem w_d15 {F : q_H → Prop} (hd : 70 ≤ d) (hL : L < 2147483648) (hi : 7 * N + 7 ≤ L) (W : w_I m N (w_sc L xs) σ) (go : ∀ σ2, w_I m (N + 1) (w_sc L xs) σ2 → ∃ σ3, F σ3 ∧ w_K fo d (.inl (some (.int 1))) σ3 (z_n (7 * N) + (7 : Int32)) σ2) (h4 : (xs (7 * N) &&& (63 : Int32)) = (15 : Int32)) : ∃ σ3, F σ3 ∧ w_K fo d (.inl (some (.int 1))) σ3 (z_n (7 * N)) σ := by
  have R0 := W.H.R hi hL
  obtain ⟨r, σ1, σ2, c1, c2, R1, W2⟩ := w_stp (fo := fo) (d := d) .int W (fun H => (X_bounds H.1 (xs (7 * N + 1))).go H) (fun h => t_Rs_bounds (by omega) h) (fun h => t_Mo_bounds (by omega) h)
  obtain ⟨σ3, f, g⟩ := go σ2 W2
  exact ⟨σ3, f, w_c15 (fun e => absurd ((w_lt hL (by omega)).mp e) (by omega)) R0 h4 c1 (R1.R hi hL) c2 g⟩
theorem w_d16 {F : q_H → Prop} (hd : 70 ≤ d) (hL : L < 2147483648) (hi : 7 * N + 7 ≤ L) (W : w_I m N (w_sc L xs) σ) (go : ∀ σ2, w_I m (N + 1) (w_sc L xs) σ2 → ∃ σ3, F σ3 ∧ w_K fo d (.inl (some (.int 1))) σ3 (z_n (7 * N) + (7 : Int32)) σ2) (h4 : (xs (7 * N) &&& (63 : Int32)) = (16 : Int32)) : ∃ σ3, F σ3 ∧ w_K fo d (.inl (some (.int 1))) σ3 (z_n (7 * N)) σ := by
  have R0 := W.H.R hi hL
  obtain ⟨r, σ1, σ2, c1, c2, R1, W2⟩ := w_stp (fo := fo) (d := d) .int W (fun H => (X_next H.1 ).go H) (fun h => t_Rs_next (by omega) h) (fun h => t_Mo_next (by omega) h)
  obtain ⟨σ3, f, g⟩ := go σ2 W2
  exact ⟨σ3, f, w_c16 (fun e => absurd ((w_lt hL (by omega)).mp e) (by omega)) R0 h4 c1 (R1.R hi hL) c2 g⟩
theorem w_d17 {F : q_H → Prop} (hd : 70 ≤ d) (hL : L < 2147483648) (hi : 7 * N + 7 ≤ L) (W : w_I m N (w_sc L xs) σ) (go : ∀ σ2, w_I m (N + 1) (w_sc L xs) σ2 → ∃ σ3, F σ3 ∧ w_K fo d (.inl (some (.int 1))) σ3 (z_n (7 * N) + (7 : Int32)) σ2) (h4 : (xs (7 * N) &&& (63 : Int32)) = (17 : Int32)) : ∃ σ3, F σ3 ∧ w_K fo d (.inl (some (.int 1))) σ3 (z_n (7 * N)) σ := by
  have R0 := W.H.R hi hL
  obtain ⟨r, σ1, σ2, c1, c2, R1, W2⟩ := w_stp (fo := fo) (d := d) .int W (fun H => (X_heaping H.1 (xs (7 * N + 1)) (xs (7 * N + 2)) (xs (7 * N + 3))).go H) (fun h => t_Rs_heaping (by omega) h) (fun h => t_Mo_heaping (by omega) h)
  obtain ⟨σ3, f, g⟩ := go σ2 W2
  exact ⟨σ3, f, w_c17 (fun e => absurd ((w_lt hL (by omega)).mp e) (by omega)) R0 h4 c1 (R1.R hi hL) c2 g⟩
theorem w_d18 {F : q_H → Prop} (hd : 70 ≤ d) (hL : L < 2147483648) (hi : 7 * N + 7 ≤ L) (W : w_I m N (w_sc L xs) σ) (go : ∀ σ2, w_I m (N + 1) (w_sc L xs) σ2 → ∃ σ3, F σ3 ∧ w_K fo d (.inl (some (.int 1))) σ3 (z_n (7 * N) + (7 : Int32)) σ2) (h4 : (xs (7 * N) &&& (63 : Int32)) = (18 : Int32)) : ∃ σ3, F σ3 ∧ w_K fo d (.inl (some (.int 1))) σ3 (z_n (7 * N)) σ := by
  have R0 := W.H.R hi hL
  obtain ⟨r, σ1, σ2, c1, c2, R1, W2⟩ := w_stp (fo := fo) (d := d) .int W (fun H => (X_one H.1 (xs (7 * N + 1)) (xs (7 * N + 2)) (xs (7 * N + 3))).go H) (fun h => t_Rs_one (by omega) h) (fun h => t_Mo_one (by omega) h)
  obtain ⟨σ3, f, g⟩ := go σ2 W2
  exact ⟨σ3, f, w_c18 (fun e => absurd ((w_lt hL (by omega)).mp e) (by omega)) R0 h4 c1 (R1.R hi hL) c2 g⟩
theorem w_d19 {F : q_H → Prop} (hd : 70 ≤ d) (hL : L < 2147483648) (hi : 7 * N + 7 ≤ L) (W : w_I m N (w_sc L xs) σ) (go : ∀ σ2, w_I m (N + 1) (w_sc L xs) σ2 → ∃ σ3, F σ3 ∧ w_K fo d (.inl (some (.int 1))) σ3 (z_n (7 * N) + (7 : Int32)) σ2) (h4 : (xs (7 * N) &&& (63 : Int32)) = (19 : Int32)) : ∃ σ3, F σ3 ∧ w_K fo d (.inl (some (.int 1))) σ3 (z_n (7 * N)) σ := by
  have R0 := W.H.R hi hL
  obtain ⟨r, σ1, σ2, c1, c2, R1, W2⟩ := w_stp (fo := fo) (d := d) .int W (fun H => (X_house H.1 H.2.1 (xs (7 * N + 1)) (xs (7 * N + 2))).go H) (fun h => t_Rs_house (by omega) h) (fun h => t_Mo_house (by omega) h)
  obtain ⟨σ3, f, g⟩ := go σ2 W2
  exact ⟨σ3, f, w_c19 (fun e => absurd ((w_lt hL (by omega)).mp e) (by omega)) R0 h4 c1 (R1.R hi hL) c2 g⟩
theorem w_d20 {F : q_H → Prop} (hd : 70 ≤ d) (hL : L < 2147483648) (hi : 7 * N + 7 ≤ L) (W : w_I m N (w_sc L xs) σ) (go : ∀ σ2, w_I m (N + 1) (w_sc L xs) σ2 → ∃ σ3, F σ3 ∧ w_K fo d (.inl (some (.int 1))) σ3 (z_n (7 * N) + (7 : Int32)) σ2) (h4 : (xs (7 * N) &&& (63 : Int32)) = (20 : Int32)) : ∃ σ3, F σ3 ∧ w_K fo d (.inl (some (.int 1))) σ3 (z_n (7 * N)) σ := by
  obtain ⟨d, rfl⟩ : ∃ e, d = e + 1 := ⟨d - 1, by omega⟩
  have R0 := W.H.R hi hL
  obtain ⟨w, hw⟩ := W.H.2.1
  rcases w_sttp (fo := fo) (d := d) W (fun H => (X_known H.1 H.2.1 (xs (7 * N + 1)) (xs (7 * N + 2)) (xs (7 * N + 3))).go H) (fun h => t_Rs_known (by omega) h) (fun h => t_Rs_known_x (by omega) h) (fun h => t_Mo_known (by omega) h) with ⟨r, σ1, σ1', σ2, c1, hs, c2, R1, W2, ht, ho⟩ | ⟨q, r, σ1, σ2, c1, c2, R1, W2, ht⟩
  · obtain ⟨σ3, f, g⟩ := go σ2 W2
    exact ⟨σ3, f, w_c20a (fun e => absurd ((w_lt hL (by omega)).mp e) (by omega)) R0 h4 (w_known0 hw c1 hs) (R1.R hi hL) c2 W2.H.2.2 (t_Mo_thrown (by omega) ht) ho g⟩
  · obtain ⟨σ3, f, g⟩ := go σ2 W2
    exact ⟨σ3, f, w_c20b (fun e => absurd ((w_lt hL (by omega)).mp e) (by omega)) R0 h4 (w_known1 hw c1) (R1.R hi hL) c2 W2.H.2.2 (t_Mo_thrown (by omega) ht) g⟩
theorem w_d21 {F : q_H → Prop} (hd : 70 ≤ d) (hL : L < 2147483648) (hi : 7 * N + 7 ≤ L) (W : w_I m N (w_sc L xs) σ) (go : ∀ σ2, w_I m (N + 1) (w_sc L xs) σ2 → ∃ σ3, F σ3 ∧ w_K fo d (.inl (some (.int 1))) σ3 (z_n (7 * N) + (7 : Int32)) σ2) (h4 : (xs (7 * N) &&& (63 : Int32)) = (21 : Int32)) : ∃ σ3, F σ3 ∧ w_K fo d (.inl (some (.int 1))) σ3 (z_n (7 * N)) σ := by
  have R0 := W.H.R hi hL
  obtain ⟨r, σ1, σ2, c1, c2, R1, W2⟩ := w_stp (fo := fo) (d := d) .int W (fun H => (X_left H.1 H.2.1 (xs (7 * N + 1)) (xs (7 * N + 2)) (xs (7 * N + 3))).go H) (fun h => t_Rs_left (by omega) h) (fun h => t_Mo_left (by omega) h)
  obtain ⟨σ3, f, g⟩ := go σ2 W2
  exact ⟨σ3, f, w_c21 (fun e => absurd ((w_lt hL (by omega)).mp e) (by omega)) R0 h4 c1 (R1.R hi hL) c2 g⟩
theorem w_d22 {F : q_H → Prop} (hd : 70 ≤ d) (hL : L < 2147483648) (hi : 7 * N + 7 ≤ L) (W : w_I m N (w_sc L xs) σ) (go : ∀ σ2, w_I m (N + 1) (w_sc L xs) σ2 → ∃ σ3, F σ3 ∧ w_K fo d (.inl (some (.int 1))) σ3 (z_n (7 * N) + (7 : Int32)) σ2) (h4 : (xs (7 * N) &&& (63 : Int32)) = (22 : Int32)) : ∃ σ3, F σ3 ∧ w_K fo d (.inl (some (.int 1))) σ3 (z_n (7 * N)) σ := by
  have R0 := W.H.R hi hL
  obtain ⟨r, σ1, σ2, c1, c2, R1, W2⟩ := w_stp (fo := fo) (d := d) .int W (fun H => X_table H (xs (7 * N + 1)) (xs (7 * N + 2)) (xs (7 * N + 3))) (fun h => t_Rs_table (by omega) h) (fun h => t_Mo_table (by omega) h)
  obtain ⟨σ3, f, g⟩ := go σ2 W2
  exact ⟨σ3, f, w_c22 (fun e => absurd ((w_lt hL (by omega)).mp e) (by omega)) R0 h4 c1 (R1.R hi hL) c2 g⟩
theorem w_d23 {F : q_H → Prop} (hd : 70 ≤ d) (hL : L < 2147483648) (hi : 7 * N + 7 ≤ L) (W : w_I m N (w_sc L xs) σ) (go : ∀ σ2, w_I m (N + 1) (w_sc L xs) σ2 → ∃ σ3, F σ3 ∧ w_K fo d (.inl (some (.int 1))) σ3 (z_n (7 * N) + (7 : Int32)) σ2) (h4 : (xs (7 * N) &&& (63 : Int32)) = (23 : Int32)) : ∃ σ3, F σ3 ∧ w_K fo d (.inl (some (.int 1))) σ3 (z_n (7 * N)) σ := by
  have R0 := W.H.R hi hL
  obtain ⟨r, σ1, σ2, c1, c2, R1, W2⟩ := w_stp (fo := fo) (d := d) .int W (fun H => (X_at H.1 (xs (7 * N + 1)) (xs (7 * N + 2))).go H) (fun h => t_Rs_at (by omega) h) (fun h => t_Mo_at (by omega) h)
  obtain ⟨σ3, f, g⟩ := go σ2 W2
  exact ⟨σ3, f, w_c23 (fun e => absurd ((w_lt hL (by omega)).mp e) (by omega)) R0 h4 c1 (R1.R hi hL) c2 g⟩
theorem w_d24 {F : q_H → Prop} (hd : 70 ≤ d) (hL : L < 2147483648) (hi : 7 * N + 7 ≤ L) (W : w_I m N (w_sc L xs) σ) (go : ∀ σ2, w_I m (N + 1) (w_sc L xs) σ2 → ∃ σ3, F σ3 ∧ w_K fo d (.inl (some (.int 1))) σ3 (z_n (7 * N) + (7 : Int32)) σ2) (h4 : (xs (7 * N) &&& (63 : Int32)) = (24 : Int32)) : ∃ σ3, F σ3 ∧ w_K fo d (.inl (some (.int 1))) σ3 (z_n (7 * N)) σ := by
  have R0 := W.H.R hi hL
  obtain ⟨r, σ1, σ2, c1, c2, R1, W2⟩ := w_stp (fo := fo) (d := d) .long W (fun H => (X_fit H.1 (xs (7 * N + 1)) (xs (7 * N + 2))).go H) (fun h => t_Rs_fit (by omega) h) (fun h => t_Mo_fit (by omega) h)
  obtain ⟨σ3, f, g⟩ := go σ2 W2
  exact ⟨σ3, f, w_c24 (fun e => absurd ((w_lt hL (by omega)).mp e) (by omega)) R0 h4 c1 (R1.R hi hL) c2 g⟩
theorem w_d25 {F : q_H → Prop} (hd : 70 ≤ d) (hL : L < 2147483648) (hi : 7 * N + 7 ≤ L) (W : w_I m N (w_sc L xs) σ) (go : ∀ σ2, w_I m (N + 1) (w_sc L xs) σ2 → ∃ σ3, F σ3 ∧ w_K fo d (.inl (some (.int 1))) σ3 (z_n (7 * N) + (7 : Int32)) σ2) (h4 : (xs (7 * N) &&& (63 : Int32)) = (25 : Int32)) : ∃ σ3, F σ3 ∧ w_K fo d (.inl (some (.int 1))) σ3 (z_n (7 * N)) σ := by
  have R0 := W.H.R hi hL
  obtain ⟨r, σ1, σ2, c1, c2, R1, W2⟩ := w_stp (fo := fo) (d := d) .int W (fun H => (X_best H.1 (xs (7 * N + 1))).go H) (fun h => t_Rs_best (by omega) h) (fun h => t_Mo_best (by omega) h)
  obtain ⟨σ3, f, g⟩ := go σ2 W2
  exact ⟨σ3, f, w_c25 (fun e => absurd ((w_lt hL (by omega)).mp e) (by omega)) R0 h4 c1 (R1.R hi hL) c2 g⟩
theorem w_d26 {F : q_H → Prop} (hd : 70 ≤ d) (hL : L < 2147483648) (hi : 7 * N + 7 ≤ L) (W : w_I m N (w_sc L xs) σ) (go : ∀ σ2, w_I m (N + 1) (w_sc L xs) σ2 → ∃ σ3, F σ3 ∧ w_K fo d (.inl (some (.int 1))) σ3 (z_n (7 * N) + (7 : Int32)) σ2) (h4 : (xs (7 * N) &&& (63 : Int32)) = (26 : Int32)) : ∃ σ3, F σ3 ∧ w_K fo d (.inl (some (.int 1))) σ3 (z_n (7 * N)) σ := by
  have R0 := W.H.R hi hL
  obtain ⟨r, σ1, σ2, c1, c2, R1, W2⟩ := w_stp (fo := fo) (d := d) .int W (fun H => (X_life H.1 (xs (7 * N + 1)) (xs (7 * N + 2)) (xs (7 * N + 3))).go H) (fun h => t_Rs_life (by omega) h) (fun h => t_Mo_life (by omega) h)
  obtain ⟨σ3, f, g⟩ := go σ2 W2
  exact ⟨σ3, f, w_c26 (fun e => absurd ((w_lt hL (by omega)).mp e) (by omega)) R0 h4 c1 (R1.R hi hL) c2 g⟩
theorem w_d27 {F : q_H → Prop} (hd : 70 ≤ d) (hL : L < 2147483648) (hi : 7 * N + 7 ≤ L) (W : w_I m N (w_sc L xs) σ) (go : ∀ σ2, w_I m (N + 1) (w_sc L xs) σ2 → ∃ σ3, F σ3 ∧ w_K fo d (.inl (some (.int 1))) σ3 (z_n (7 * N) + (7 : Int32)) σ2) (h4 : (xs (7 * N) &&& (63 : Int32)) = (27 : Int32)) : ∃ σ3, F σ3 ∧ w_K fo d (.inl (some (.int 1))) σ3 (z_n (7 * N)) σ := by
  have R0 := W.H.R hi hL
  obtain ⟨r, σ1, σ2, c1, c2, R1, W2⟩ := w_stp (fo := fo) (d := d) .int W (fun H => X_gap H (xs (7 * N + 1))) (fun h => t_Rs_gap (by omega) h) (fun h => t_Mo_gap (by omega) h)
  obtain ⟨σ3, f, g⟩ := go σ2 W2
  exact ⟨σ3, f, w_c27 (fun e => absurd ((w_lt hL (by omega)).mp e) (by omega)) R0 h4 c1 (R1.R hi hL) c2 g⟩
theorem w_d28 {F : q_H → Prop} (hd : 70 ≤ d) (hL : L < 2147483648) (hi : 7 * N + 7 ≤ L) (W : w_I m N (w_sc L xs) σ) (go : ∀ σ2, w_I m (N + 1) (w_sc L xs) σ2 → ∃ σ3, F σ3 ∧ w_K fo d (.inl (some (.int 1))) σ3 (z_n (7 * N) + (7 : Int32)) σ2) (h4 : (xs (7 * N) &&& (63 : Int32)) = (28 : Int32)) : ∃ σ3, F σ3 ∧ w_K fo d (.inl (some (.int 1))) σ3 (z_n (7 * N)) σ := by
  have R0 := W.H.R hi hL
  obtain ⟨r, σ1, σ2, c1, c2, R1, W2⟩ := w_stp (fo := fo) (d := d) .long W (fun H => (X_could H.1 (xs (7 * N + 1)) (xs (7 * N + 2)) (xs (7 * N + 3)) (xs (7 * N + 4))).go H) (fun h => t_Rs_could (by omega) h) (fun h => t_Mo_could (by omega) h)
  obtain ⟨σ3, f, g⟩ := go σ2 W2
  exact ⟨σ3, f, w_c28 (fun e => absurd ((w_lt hL (by omega)).mp e) (by omega)) R0 h4 c1 (R1.R hi hL) c2 g⟩
theorem w_d29 {F : q_H → Prop} (hd : 70 ≤ d) (hL : L < 2147483648) (hi : 7 * N + 7 ≤ L) (W : w_I m N (w_sc L xs) σ) (go : ∀ σ2, w_I m (N + 1) (w_sc L xs) σ2 → ∃ σ3, F σ3 ∧ w_K fo d (.inl (some (.int 1))) σ3 (z_n (7 * N) + (7 : Int32)) σ2) (h4 : (xs (7 * N) &&& (63 : Int32)) = (29 : Int32)) : ∃ σ3, F σ3 ∧ w_K fo d (.inl (some (.int 1))) σ3 (z_n (7 * N)) σ := by
  have R0 := W.H.R hi hL
  obtain ⟨r, σ1, σ2, c1, c2, R1, W2⟩ := w_stp (fo := fo) (d := d) .long W (fun H => (X_sisters H.1 (xs (7 * N + 1)) (xs (7 * N + 2)) (xs (7 * N + 3))).go H) (fun h => t_Rs_sisters (by omega) h) (fun h => t_Mo_sisters (by omega) h)
  obtain ⟨σ3, f, g⟩ := go σ2 W2
  exact ⟨σ3, f, w_c29 (fun e => absurd ((w_lt hL (by omega)).mp e) (by omega)) R0 h4 c1 (R1.R hi hL) c2 g⟩
theorem w_d30 {F : q_H → Prop} (hd : 70 ≤ d) (hL : L < 2147483648) (hi : 7 * N + 7 ≤ L) (W : w_I m N (w_sc L xs) σ) (go : ∀ σ2, w_I m (N + 1) (w_sc L xs) σ2 → ∃ σ3, F σ3 ∧ w_K fo d (.inl (some (.int 1))) σ3 (z_n (7 * N) + (7 : Int32)) σ2) (h4 : (xs (7 * N) &&& (63 : Int32)) = (30 : Int32)) : ∃ σ3, F σ3 ∧ w_K fo d (.inl (some (.int 1))) σ3 (z_n (7 * N)) σ := by
  have R0 := W.H.R hi hL
  obtain ⟨r, σ1, σ2, c1, c2, R1, W2⟩ := w_stp (fo := fo) (d := d) .int W (fun H => (X_taken H.1 (xs (7 * N + 1)) (xs (7 * N + 2))).go H) (fun h => t_Rs_taken (by omega) h) (fun h => t_Mo_taken (by omega) h)
  obtain ⟨σ3, f, g⟩ := go σ2 W2
  exact ⟨σ3, f, w_c30 (fun e => absurd ((w_lt hL (by omega)).mp e) (by omega)) R0 h4 c1 (R1.R hi hL) c2 g⟩
theorem w_d31 {F : q_H → Prop} (hd : 70 ≤ d) (hL : L < 2147483648) (hi : 7 * N + 7 ≤ L) (W : w_I m N (w_sc L xs) σ) (go : ∀ σ2, w_I m (N + 1) (w_sc L xs) σ2 → ∃ σ3, F σ3 ∧ w_K fo d (.inl (some (.int 1))) σ3 (z_n (7 * N) + (7 : Int32)) σ2) (h4 : (xs (7 * N) &&& (63 : Int32)) = (31 : Int32)) : ∃ σ3, F σ3 ∧ w_K fo d (.inl (some (.int 1))) σ3 (z_n (7 * N)) σ := by
  have R0 := W.H.R hi hL
  by_cases hz : xs (7 * N + 1) = (0 : Int32)
  · obtain ⟨r, σ1, σ2, c1, c2, R1, W2⟩ := w_stp (fo := fo) (d := d) .int W (fun H => (X_born H.1 (0 : Int32) (xs (7 * N + 2))).go H) (fun h => t_Rs_born (by omega) h) (fun h => t_Mo_born (by omega) h)
    obtain ⟨σ3, f, g⟩ := go σ2 W2
    exact ⟨σ3, f, w_c31z (fun e => absurd ((w_lt hL (by omega)).mp e) (by omega)) R0 h4 hz c1 (R1.R hi hL) c2 g⟩
  · obtain ⟨r, σ1, σ2, c1, c2, R1, W2⟩ := w_stp (fo := fo) (d := d) .int W (fun H => (X_born H.1 (1 : Int32) (xs (7 * N + 2))).go H) (fun h => t_Rs_born (by omega) h) (fun h => t_Mo_born (by omega) h)
    obtain ⟨σ3, f, g⟩ := go σ2 W2
    exact ⟨σ3, f, w_c31n (fun e => absurd ((w_lt hL (by omega)).mp e) (by omega)) R0 h4 hz c1 (R1.R hi hL) c2 g⟩
theorem w_d32 {F : q_H → Prop} (hd : 70 ≤ d) (hL : L < 2147483648) (hi : 7 * N + 7 ≤ L) (W : w_I m N (w_sc L xs) σ) (go : ∀ σ2, w_I m (N + 1) (w_sc L xs) σ2 → ∃ σ3, F σ3 ∧ w_K fo d (.inl (some (.int 1))) σ3 (z_n (7 * N) + (7 : Int32)) σ2) (h4 : (xs (7 * N) &&& (63 : Int32)) = (32 : Int32)) : ∃ σ3, F σ3 ∧ w_K fo d (.inl (some (.int 1))) σ3 (z_n (7 * N)) σ := by
  have R0 := W.H.R hi hL
  obtain ⟨r, σ1, σ2, c1, c2, R1, W2⟩ := w_stp (fo := fo) (d := d) .int W (fun H => X_law H (xs (7 * N + 1))) (fun h => t_Rs_law (by omega) h) (fun h => t_Mo_law (by omega) h)
  obtain ⟨σ3, f, g⟩ := go σ2 W2
  exact ⟨σ3, f, w_c32 (fun e => absurd ((w_lt hL (by omega)).mp e) (by omega)) R0 h4 c1 (R1.R hi hL) c2 g⟩
theorem w_d33 {F : q_H → Prop} (hd : 70 ≤ d) (hL : L < 2147483648) (hi : 7 * N + 7 ≤ L) (W : w_I m N (w_sc L xs) σ) (go : ∀ σ2, w_I m (N + 1) (w_sc L xs) σ2 → ∃ σ3, F σ3 ∧ w_K fo d (.inl (some (.int 1))) σ3 (z_n (7 * N) + (7 : Int32)) σ2) (h4 : (xs (7 * N) &&& (63 : Int32)) = (33 : Int32)) : ∃ σ3, F σ3 ∧ w_K fo d (.inl (some (.int 1))) σ3 (z_n (7 * N)) σ := by
  have R0 := W.H.R hi hL
  obtain ⟨r, σ1, σ2, c1, c2, R1, W2⟩ := w_stp (fo := fo) (d := d) .int W (fun H => X_lets H (xs (7 * N + 1)) (xs (7 * N + 2)) (xs (7 * N + 3))) (fun h => t_Rs_lets (by omega) h) (fun h => t_Mo_lets (by omega) h)
  obtain ⟨σ3, f, g⟩ := go σ2 W2
  exact ⟨σ3, f, w_c33 (fun e => absurd ((w_lt hL (by omega)).mp e) (by omega)) R0 h4 c1 (R1.R hi hL) c2 g⟩
theorem w_d34 {F : q_H → Prop} (hd : 70 ≤ d) (hL : L < 2147483648) (hi : 7 * N + 7 ≤ L) (W : w_I m N (w_sc L xs) σ) (go : ∀ σ2, w_I m (N + 1) (w_sc L xs) σ2 → ∃ σ3, F σ3 ∧ w_K fo d (.inl (some (.int 1))) σ3 (z_n (7 * N) + (7 : Int32)) σ2) (h4 : (xs (7 * N) &&& (63 : Int32)) = (34 : Int32)) : ∃ σ3, F σ3 ∧ w_K fo d (.inl (some (.int 1))) σ3 (z_n (7 * N)) σ := by
  have R0 := W.H.R hi hL
  obtain ⟨r, σ1, σ2, c1, c2, R1, W2⟩ := w_stp (fo := fo) (d := d) .int W (fun H => X_fails H (xs (7 * N + 1))) (fun h => t_Rs_fails (by omega) h) (fun h => t_Mo_fails (by omega) h)
  obtain ⟨σ3, f, g⟩ := go σ2 W2
  exact ⟨σ3, f, w_c34 (fun e => absurd ((w_lt hL (by omega)).mp e) (by omega)) R0 h4 c1 (R1.R hi hL) c2 g⟩
theorem w_d35 {F : q_H → Prop} (hd : 70 ≤ d) (hL : L < 2147483648) (hi : 7 * N + 7 ≤ L) (W : w_I m N (w_sc L xs) σ) (go : ∀ σ2, w_I m (N + 1) (w_sc L xs) σ2 → ∃ σ3, F σ3 ∧ w_K fo d (.inl (some (.int 1))) σ3 (z_n (7 * N) + (7 : Int32)) σ2) (h4 : (xs (7 * N) &&& (63 : Int32)) = (35 : Int32)) : ∃ σ3, F σ3 ∧ w_K fo d (.inl (some (.int 1))) σ3 (z_n (7 * N)) σ := by
  have R0 := W.H.R hi hL
  obtain ⟨r, σ1, σ2, c1, c2, R1, W2⟩ := w_stp (fo := fo) (d := d) .int W (fun H => X_fittest H ) (fun h => t_Rs_fittest (by omega) h) (fun h => t_Mo_fittest (by omega) h)
  obtain ⟨σ3, f, g⟩ := go σ2 W2
  exact ⟨σ3, f, w_c35 (fun e => absurd ((w_lt hL (by omega)).mp e) (by omega)) R0 h4 c1 (R1.R hi hL) c2 g⟩
theorem w_d36 {F : q_H → Prop} (hd : 70 ≤ d) (hL : L < 2147483648) (hi : 7 * N + 7 ≤ L) (W : w_I m N (w_sc L xs) σ) (go : ∀ σ2, w_I m (N + 1) (w_sc L xs) σ2 → ∃ σ3, F σ3 ∧ w_K fo d (.inl (some (.int 1))) σ3 (z_n (7 * N) + (7 : Int32)) σ2) (h4 : (xs (7 * N) &&& (63 : Int32)) = (36 : Int32)) : ∃ σ3, F σ3 ∧ w_K fo d (.inl (some (.int 1))) σ3 (z_n (7 * N)) σ := by
  have R0 := W.H.R hi hL
  obtain ⟨r, σ1, σ2, c1, c2, R1, W2⟩ := w_stp (fo := fo) (d := d) .int W (fun H => X_apart H (xs (7 * N + 1)) (xs (7 * N + 2))) (fun h => t_Rs_apart (by omega) h) (fun h => t_Mo_apart (by omega) h)
  obtain ⟨σ3, f, g⟩ := go σ2 W2
  exact ⟨σ3, f, w_c36 (fun e => absurd ((w_lt hL (by omega)).mp e) (by omega)) R0 h4 c1 (R1.R hi hL) c2 g⟩
theorem w_d37 {F : q_H → Prop} (hd : 70 ≤ d) (hL : L < 2147483648) (hi : 7 * N + 7 ≤ L) (W : w_I m N (w_sc L xs) σ) (go : ∀ σ2, w_I m (N + 1) (w_sc L xs) σ2 → ∃ σ3, F σ3 ∧ w_K fo d (.inl (some (.int 1))) σ3 (z_n (7 * N) + (7 : Int32)) σ2) (h4 : (xs (7 * N) &&& (63 : Int32)) = (37 : Int32)) : ∃ σ3, F σ3 ∧ w_K fo d (.inl (some (.int 1))) σ3 (z_n (7 * N)) σ := by
  have R0 := W.H.R hi hL
  obtain ⟨r, σ1, σ2, c1, c2, R1, W2⟩ := w_stp (fo := fo) (d := d) .int W (fun H => (X_world H.1 (xs (7 * N + 1)) (xs (7 * N + 2)) (xs (7 * N + 3)) (xs (7 * N + 4)) (xs (7 * N + 5)) (xs (7 * N + 6))).go H) (fun h => t_Rs_world (by omega) h) (fun h => t_Mo_world (by omega) h)
  obtain ⟨σ3, f, g⟩ := go σ2 W2
  exact ⟨σ3, f, w_c37 (fun e => absurd ((w_lt hL (by omega)).mp e) (by omega)) R0 h4 c1 (R1.R hi hL) c2 g⟩
theorem w_d38 {F : q_H → Prop} (hd : 70 ≤ d) (hL : L < 2147483648) (hi : 7 * N + 7 ≤ L) (W : w_I m N (w_sc L xs) σ) (go : ∀ σ2, w_I m (N + 1) (w_sc L xs) σ2 → ∃ σ3, F σ3 ∧ w_K fo d (.inl (some (.int 1))) σ3 (z_n (7 * N) + (7 : Int32)) σ2) (h4 : (xs (7 * N) &&& (63 : Int32)) = (38 : Int32)) : ∃ σ3, F σ3 ∧ w_K fo d (.inl (some (.int 1))) σ3 (z_n (7 * N)) σ := by
  have R0 := W.H.R hi hL
  obtain ⟨r, σ1, σ2, c1, c2, R1, W2⟩ := w_stp (fo := fo) (d := d) .int W (fun H => (X_rates H.1 (xs (7 * N + 1)) (xs (7 * N + 2)) (xs (7 * N + 3)) (xs (7 * N + 4)) (xs (7 * N + 5))).go H) (fun h => t_Rs_rates (by omega) h) (fun h => t_Mo_rates (by omega) h)
  obtain ⟨σ3, f, g⟩ := go σ2 W2
  exact ⟨σ3, f, w_c38 (fun e => absurd ((w_lt hL (by omega)).mp e) (by omega)) R0 h4 c1 (R1.R hi hL) c2 g⟩
theorem w_d39 {F : q_H → Prop} (hd : 70 ≤ d) (hL : L < 2147483648) (hi : 7 * N + 7 ≤ L) (W : w_I m N (w_sc L xs) σ) (go : ∀ σ2, w_I m (N + 1) (w_sc L xs) σ2 → ∃ σ3, F σ3 ∧ w_K fo d (.inl (some (.int 1))) σ3 (z_n (7 * N) + (7 : Int32)) σ2) (h4 : (xs (7 * N) &&& (63 : Int32)) = (39 : Int32)) : ∃ σ3, F σ3 ∧ w_K fo d (.inl (some (.int 1))) σ3 (z_n (7 * N)) σ := by
  have R0 := W.H.R hi hL
  obtain ⟨r, σ1, σ2, c1, c2, R1, W2⟩ := w_stp (fo := fo) (d := d) .int W (fun H => (X_readings H.1 (xs (7 * N + 1))).go H) (fun h => t_Rs_readings (by omega) h) (fun h => t_Mo_readings (by omega) h)
  obtain ⟨σ3, f, g⟩ := go σ2 W2
  exact ⟨σ3, f, w_c39 (fun e => absurd ((w_lt hL (by omega)).mp e) (by omega)) R0 h4 c1 (R1.R hi hL) c2 g⟩
theorem w_d40 {F : q_H → Prop} (hd : 70 ≤ d) (hL : L < 2147483648) (hi : 7 * N + 7 ≤ L) (W : w_I m N (w_sc L xs) σ) (go : ∀ σ2, w_I m (N + 1) (w_sc L xs) σ2 → ∃ σ3, F σ3 ∧ w_K fo d (.inl (some (.int 1))) σ3 (z_n (7 * N) + (7 : Int32)) σ2) (h4 : (xs (7 * N) &&& (63 : Int32)) = (40 : Int32)) : ∃ σ3, F σ3 ∧ w_K fo d (.inl (some (.int 1))) σ3 (z_n (7 * N)) σ := by
  have R0 := W.H.R hi hL
  obtain ⟨r, σ1, σ2, c1, c2, R1, W2⟩ := w_stp (fo := fo) (d := d) .int W (fun H => (X_reading H.1 (xs (7 * N + 1)) (xs (7 * N + 2))).go H) (fun h => t_Rs_reading (by omega) h) (fun h => t_Mo_reading (by omega) h)
  obtain ⟨σ3, f, g⟩ := go σ2 W2
  exact ⟨σ3, f, w_c40 (fun e => absurd ((w_lt hL (by omega)).mp e) (by omega)) R0 h4 c1 (R1.R hi hL) c2 g⟩
theorem w_d41 {F : q_H → Prop} (hd : 70 ≤ d) (hL : L < 2147483648) (hi : 7 * N + 7 ≤ L) (W : w_I m N (w_sc L xs) σ) (go : ∀ σ2, w_I m (N + 1) (w_sc L xs) σ2 → ∃ σ3, F σ3 ∧ w_K fo d (.inl (some (.int 1))) σ3 (z_n (7 * N) + (7 : Int32)) σ2) (h4 : (xs (7 * N) &&& (63 : Int32)) = (41 : Int32)) : ∃ σ3, F σ3 ∧ w_K fo d (.inl (some (.int 1))) σ3 (z_n (7 * N)) σ := by
  have R0 := W.H.R hi hL
  obtain ⟨r, σ1, σ2, c1, c2, R1, W2⟩ := w_stp (fo := fo) (d := d) .int W (fun H => (X_says H.1 (xs (7 * N + 1)) (xs (7 * N + 2))).go H) (fun h => t_Rs_says (by omega) h) (fun h => t_Mo_says (by omega) h)
  obtain ⟨σ3, f, g⟩ := go σ2 W2
  exact ⟨σ3, f, w_c41 (fun e => absurd ((w_lt hL (by omega)).mp e) (by omega)) R0 h4 c1 (R1.R hi hL) c2 g⟩
theorem w_d42 {F : q_H → Prop} (hd : 70 ≤ d) (hL : L < 2147483648) (hi : 7 * N + 7 ≤ L) (W : w_I m N (w_sc L xs) σ) (go : ∀ σ2, w_I m (N + 1) (w_sc L xs) σ2 → ∃ σ3, F σ3 ∧ w_K fo d (.inl (some (.int 1))) σ3 (z_n (7 * N) + (7 : Int32)) σ2) (h4 : (xs (7 * N) &&& (63 : Int32)) = (42 : Int32)) : ∃ σ3, F σ3 ∧ w_K fo d (.inl (some (.int 1))) σ3 (z_n (7 * N)) σ := by
  have R0 := W.H.R hi hL
  obtain ⟨r, σ1, σ2, c1, c2, R1, W2⟩ := w_stp (fo := fo) (d := d) .int W (fun H => (X_young H.1 H.2.1 (xs (7 * N + 1)) (xs (7 * N + 2))).go H) (fun h => t_Rs_young (by omega) h) (fun h => t_Mo_young (by omega) h)
  obtain ⟨σ3, f, g⟩ := go σ2 W2
  exact ⟨σ3, f, w_c42 (fun e => absurd ((w_lt hL (by omega)).mp e) (by omega)) R0 h4 c1 (R1.R hi hL) c2 g⟩
theorem w_d43 {F : q_H → Prop} (hd : 70 ≤ d) (hL : L < 2147483648) (hi : 7 * N + 7 ≤ L) (W : w_I m N (w_sc L xs) σ) (go : ∀ σ2, w_I m (N + 1) (w_sc L xs) σ2 → ∃ σ3, F σ3 ∧ w_K fo d (.inl (some (.int 1))) σ3 (z_n (7 * N) + (7 : Int32)) σ2) (h4 : (xs (7 * N) &&& (63 : Int32)) = (43 : Int32)) : ∃ σ3, F σ3 ∧ w_K fo d (.inl (some (.int 1))) σ3 (z_n (7 * N)) σ := by
  have R0 := W.H.R hi hL
  by_cases hz : xs (7 * N + 2) = (0 : Int32)
  · obtain ⟨r, σ1, σ2, c1, c2, R1, W2⟩ := w_stp (fo := fo) (d := d) .int W (fun H => X_mark H (xs (7 * N + 1)) (0 : Int32)) (fun h => t_Rs_mark (by omega) h) (fun h => t_Mo_mark (by omega) h)
    obtain ⟨σ3, f, g⟩ := go σ2 W2
    exact ⟨σ3, f, w_c43z (fun e => absurd ((w_lt hL (by omega)).mp e) (by omega)) R0 h4 hz c1 (R1.R hi hL) c2 g⟩
  · obtain ⟨r, σ1, σ2, c1, c2, R1, W2⟩ := w_stp (fo := fo) (d := d) .int W (fun H => X_mark H (xs (7 * N + 1)) (1 : Int32)) (fun h => t_Rs_mark (by omega) h) (fun h => t_Mo_mark (by omega) h)
    obtain ⟨σ3, f, g⟩ := go σ2 W2
    exact ⟨σ3, f, w_c43n (fun e => absurd ((w_lt hL (by omega)).mp e) (by omega)) R0 h4 hz c1 (R1.R hi hL) c2 g⟩
theorem w_d44 {F : q_H → Prop} (hd : 70 ≤ d) (hL : L < 2147483648) (hi : 7 * N + 7 ≤ L) (W : w_I m N (w_sc L xs) σ) (go : ∀ σ2, w_I m (N + 1) (w_sc L xs) σ2 → ∃ σ3, F σ3 ∧ w_K fo d (.inl (some (.int 1))) σ3 (z_n (7 * N) + (7 : Int32)) σ2) (h4 : (xs (7 * N) &&& (63 : Int32)) = (44 : Int32)) : ∃ σ3, F σ3 ∧ w_K fo d (.inl (some (.int 1))) σ3 (z_n (7 * N)) σ := by
  have R0 := W.H.R hi hL
  obtain ⟨r, σ1, σ2, c1, c2, R1, W2⟩ := w_stp (fo := fo) (d := d) .int W (fun H => (X_count H (xs (7 * N + 1))).go H) (fun h => t_Rs_count (by omega) h) (fun h => t_Mo_count (by omega) h)
  obtain ⟨σ3, f, g⟩ := go σ2 W2
  exact ⟨σ3, f, w_c44 (fun e => absurd ((w_lt hL (by omega)).mp e) (by omega)) R0 h4 c1 (R1.R hi hL) c2 g⟩
end
def w_F (m : Nat) (σ : q_H) : Prop := σ.2.1 ≤ 131 + 60 * 512 ∧ σ.2.2 ≤ m + 3000 * 512
theorem w_loop {fo : Option Nat} {d : Nat} (hd : 70 ≤ d) {L m : Nat} {xs : Nat → Int32} (hL : L ≤ 3584) : ∀ (k N : Nat) (σ : q_H), N + k = 512 → 7 * N ≤ L → w_I m N (w_sc L xs) σ → ∃ σ3, w_F m σ3 ∧ w_K fo d (.inl (some (.int 1))) σ3 (z_n (7 * N)) σ := by
  have stop : ∀ (N : Nat) (σ : q_H), N ≤ 512 → 7 * N ≤ L → L < 7 * N + 7 → w_I m N (w_sc L xs) σ → ∃ σ3, w_F m σ3 ∧ w_K fo d (.inl (some (.int 1))) σ3 (z_n (7 * N)) σ := by
    intro N σ hN h1 h2 W
    refine ⟨σ, ?_, w_ce ((w_lt (by omega) h1).mpr h2) (w_sc_len W.H.1)⟩
    obtain ⟨S, I, J, P, K, n, g, y, rfl, -, -, -, n1, n2⟩ := W
    exact ⟨by show n.1 ≤ _; omega, by show n.2 ≤ _; omega⟩
  intro k
  induction k with
  | zero => exact fun N σ hk h1 W => stop N σ (by omega) h1 (by omega) W
  | succ k ih =>
    intro N σ hk h1 W
    by_cases h2 : L < 7 * N + 7
    · exact stop N σ (by omega) h1 h2 W
    have hL' : L < 2147483648 := by omega
    have hi : 7 * N + 7 ≤ L := by omega
    have go : ∀ σ2, w_I m (N + 1) (w_sc L xs) σ2 → ∃ σ3, w_F m σ3 ∧ w_K fo d (.inl (some (.int 1))) σ3 (z_n (7 * N) + (7 : Int32)) σ2 := fun σ2 W2 => by
      have := ih (N + 1) σ2 (by omega) (by omega) W2
      rw [show z_n (7 * N) + (7 : Int32) = z_n (7 * (N + 1)) from z_n_add (7 * N) 7]; exact this
    by_cases e0 : (xs (7 * N) &&& (63 : Int32)) = (0 : Int32)
    · exact w_d0 hd hL' hi W go e0
    by_cases e1 : (xs (7 * N) &&& (63 : Int32)) = (1 : Int32)
    · exact w_d1 hd hL' hi W go e1
    by_cases e2 : (xs (7 * N) &&& (63 : Int32)) = (2 : Int32)
    · exact w_d2 hd hL' hi W go e2
    by_cases e3 : (xs (7 * N) &&& (63 : Int32)) = (3 : Int32)
    · exact w_d3 hd hL' hi W go e3
    by_cases e4 : (xs (7 * N) &&& (63 : Int32)) = (4 : Int32)
    · exact w_d4 hd hL' hi W go e4
    by_cases e5 : (xs (7 * N) &&& (63 : Int32)) = (5 : Int32)
    · exact w_d5 hd hL' hi W go e5
    by_cases e6 : (xs (7 * N) &&& (63 : Int32)) = (6 : Int32)
    · exact w_d6 hd hL' hi W go e6
    by_cases e7 : (xs (7 * N) &&& (63 : Int32)) = (7 : Int32)
    · exact w_d7 hd hL' hi W go e7
    by_cases e8 : (xs (7 * N) &&& (63 : Int32)) = (8 : Int32)
    · exact w_d8 hd hL' hi W go e8
    by_cases e9 : (xs (7 * N) &&& (63 : Int32)) = (9 : Int32)
    · exact w_d9 hd hL' hi W go e9
    by_cases e10 : (xs (7 * N) &&& (63 : Int32)) = (10 : Int32)
    · exact w_d10 hd hL' hi W go e10
    by_cases e11 : (xs (7 * N) &&& (63 : Int32)) = (11 : Int32)
    · exact w_d11 hd hL' hi W go e11
    by_cases e12 : (xs (7 * N) &&& (63 : Int32)) = (12 : Int32)
    · exact w_d12 hd hL' hi W go e12
    by_cases e13 : (xs (7 * N) &&& (63 : Int32)) = (13 : Int32)
    · exact w_d13 hd hL' hi W go e13
    by_cases e14 : (xs (7 * N) &&& (63 : Int32)) = (14 : Int32)
    · exact w_d14 hd hL' hi W go e14
    by_cases e15 : (xs (7 * N) &&& (63 : Int32)) = (15 : Int32)
    · exact w_d15 hd hL' hi W go e15
    by_cases e16 : (xs (7 * N) &&& (63 : Int32)) = (16 : Int32)
    · exact w_d16 hd hL' hi W go e16
    by_cases e17 : (xs (7 * N) &&& (63 : Int32)) = (17 : Int32)
    · exact w_d17 hd hL' hi W go e17
    by_cases e18 : (xs (7 * N) &&& (63 : Int32)) = (18 : Int32)
    · exact w_d18 hd hL' hi W go e18
    by_cases e19 : (xs (7 * N) &&& (63 : Int32)) = (19 : Int32)
    · exact w_d19 hd hL' hi W go e19
    by_cases e20 : (xs (7 * N) &&& (63 : Int32)) = (20 : Int32)
    · exact w_d20 hd hL' hi W go e20
    by_cases e21 : (xs (7 * N) &&& (63 : Int32)) = (21 : Int32)
    · exact w_d21 hd hL' hi W go e21
    by_cases e22 : (xs (7 * N) &&& (63 : Int32)) = (22 : Int32)
    · exact w_d22 hd hL' hi W go e22
    by_cases e23 : (xs (7 * N) &&& (63 : Int32)) = (23 : Int32)
    · exact w_d23 hd hL' hi W go e23
    by_cases e24 : (xs (7 * N) &&& (63 : Int32)) = (24 : Int32)
    · exact w_d24 hd hL' hi W go e24
    by_cases e25 : (xs (7 * N) &&& (63 : Int32)) = (25 : Int32)
    · exact w_d25 hd hL' hi W go e25
    by_cases e26 : (xs (7 * N) &&& (63 : Int32)) = (26 : Int32)
    · exact w_d26 hd hL' hi W go e26
    by_cases e27 : (xs (7 * N) &&& (63 : Int32)) = (27 : Int32)
    · exact w_d27 hd hL' hi W go e27
    by_cases e28 : (xs (7 * N) &&& (63 : Int32)) = (28 : Int32)
    · exact w_d28 hd hL' hi W go e28
    by_cases e29 : (xs (7 * N) &&& (63 : Int32)) = (29 : Int32)
    · exact w_d29 hd hL' hi W go e29
    by_cases e30 : (xs (7 * N) &&& (63 : Int32)) = (30 : Int32)
    · exact w_d30 hd hL' hi W go e30
    by_cases e31 : (xs (7 * N) &&& (63 : Int32)) = (31 : Int32)
    · exact w_d31 hd hL' hi W go e31
    by_cases e32 : (xs (7 * N) &&& (63 : Int32)) = (32 : Int32)
    · exact w_d32 hd hL' hi W go e32
    by_cases e33 : (xs (7 * N) &&& (63 : Int32)) = (33 : Int32)
    · exact w_d33 hd hL' hi W go e33
    by_cases e34 : (xs (7 * N) &&& (63 : Int32)) = (34 : Int32)
    · exact w_d34 hd hL' hi W go e34
    by_cases e35 : (xs (7 * N) &&& (63 : Int32)) = (35 : Int32)
    · exact w_d35 hd hL' hi W go e35
    by_cases e36 : (xs (7 * N) &&& (63 : Int32)) = (36 : Int32)
    · exact w_d36 hd hL' hi W go e36
    by_cases e37 : (xs (7 * N) &&& (63 : Int32)) = (37 : Int32)
    · exact w_d37 hd hL' hi W go e37
    by_cases e38 : (xs (7 * N) &&& (63 : Int32)) = (38 : Int32)
    · exact w_d38 hd hL' hi W go e38
    by_cases e39 : (xs (7 * N) &&& (63 : Int32)) = (39 : Int32)
    · exact w_d39 hd hL' hi W go e39
    by_cases e40 : (xs (7 * N) &&& (63 : Int32)) = (40 : Int32)
    · exact w_d40 hd hL' hi W go e40
    by_cases e41 : (xs (7 * N) &&& (63 : Int32)) = (41 : Int32)
    · exact w_d41 hd hL' hi W go e41
    by_cases e42 : (xs (7 * N) &&& (63 : Int32)) = (42 : Int32)
    · exact w_d42 hd hL' hi W go e42
    by_cases e43 : (xs (7 * N) &&& (63 : Int32)) = (43 : Int32)
    · exact w_d43 hd hL' hi W go e43
    by_cases e44 : (xs (7 * N) &&& (63 : Int32)) = (44 : Int32)
    · exact w_d44 hd hL' hi W go e44
    have W2 : w_I m (N + 1) (w_sc L xs) σ := by
      obtain ⟨S, I, J, P, K, n, g, y, h1, h2, h3, h4, n1, n2⟩ := W
      exact ⟨S, I, J, P, K, n, g, y, h1, h2, h3, h4, by omega, by omega⟩
    obtain ⟨σ3, f, g⟩ := go σ W2
    exact ⟨σ3, f, w_cd (fun e => absurd ((w_lt hL' (by omega)).mp e) (by omega)) (W.H.R hi hL') e0 e1 e2 e3 e4 e5 e6 e7 e8 e9 e10 e11 e12 e13 e14 e15 e16 e17 e18 e19 e20 e21 e22 e23 e24 e25 e26 e27 e28 e29 e30 e31 e32 e33 e34 e35 e36 e37 e38 e39 e40 e41 e42 e43 e44 g⟩
