/-! The start: both objects made. -/
def e_b1 : List Nat := [102, 97, 116, 104, 101, 114, 32, 109, 111, 116, 104, 101, 114, 32, 119, 105, 102, 101, 32, 115, 105, 115, 116, 101, 114, 32, 98, 114, 111, 107, 101, 110, 32, 116, 97, 107, 101, 110, 32, 115, 108, 97, 118, 101, 32, 108, 111, 100, 103, 101, 114, 32, 109, 97, 110, 32, 119, 111, 109, 97, 110]
def e_b2 : List Nat := [103, 97, 112, 32, 104, 105, 115, 32, 104, 101, 114, 115, 32, 102, 117, 108, 108, 32, 104, 97, 108, 102, 32, 99, 97, 108, 108, 101, 100, 32, 99, 114, 97, 99, 107, 101, 100, 32, 97, 100, 111, 112, 116, 101, 100, 32, 115, 111, 110, 115, 32, 115, 105, 115, 116, 101, 114, 115, 32, 118, 105, 108, 108, 97, 103, 101, 32, 115, 105, 100, 101, 32, 99, 111, 117, 110, 116, 32, 97, 110, 100, 32, 111, 114, 32, 110, 111, 116, 32, 108, 101, 116, 32, 119, 104, 101, 110]
def e_b3 : List Nat := [40, 41, 60, 61, 43, 45, 42, 59]
def e_iv (l : List Nat) : List Value := l.map fun b => .int (z_n b)
/-- what was there before, but for the script -/
def e_st (a : Nat) : Option q_C := if a = 1 then some (20, e_iv k_tb) else if a = 2 then some (13, [.ref 5, .int 0]) else if a = 3 then some (13, [.ref 6, .int 0]) else if a = 4 then some (13, [.ref 7, .int 0]) else if a = 5 then some (24, e_iv e_b1) else if a = 6 then some (24, e_iv e_b2) else if a = 7 then some (24, e_iv e_b3) else none
def e_s0 : q_H := (e_st, 8, 0)
def e_v0 : List Value := [.null, .null, .null, .null, .null, .null, .null, .null, .null, .null, .null, .null, .null]
def e_v12 : List Value := [.int 0, .null, .null, .null, .null, .null, .null, .null, .null, .null, .null, .null, .null, .null, .null, .null, .int 0, .null, .int 0, .int 0, .int 0, .int 0, .long 0, .int 0, .int 0, .long 0, .long 0, .null, .int 0, .int 0, .null, .null, .int 0, .null, .long 0, .null, .null, .null, .null, .int 0, .null, .null, .null, .null, .null, .null, .null, .null, .null, .null, .null, .null, .long 0, .int 0, .int 0, .null, .null, .null, .int 0, .null, .null, .null, .null, .null, .null, .null]
def e_i1 : Option (Unit × q_H) := f_Rs_init 8 (q_mk e_s0 0 e_v0)
def e_s1 : q_H := match e_i1 with
  | some r => r.2
  | none => e_s0
def e_i2 : Option (Unit × q_H) := f_Mo_init 83 (q_mk e_s1 12 e_v12)
def e_s2 : q_H := match e_i2 with
  | some r => r.2
  | none => e_s0
def e_kd : Value → Nat
  | .int _ => 0
  | .long _ => 1
  | _ => 2
def e_cl : Value → Bool
  | .int _ => true
  | .long _ => true
  | .null => true
  | .ref _ => true
  | _ => false
def e_gi : Option Value → Int32
  | some (.int x) => x
  | _ => 0
def e_gj : Option Value → Int64
  | some (.long x) => x
  | _ => 0
def e_gp : Option Value → Option Nat
  | some (.ref x) => some x
  | _ => none
def e_ce0 (a : Nat) : List Value := match e_s2.1 a with
  | some c => c.2
  | none => []
def e_S : z_SH := fun a => if a < 130 then (e_s2.1 a).map fun c => (c.1, c.2.map e_kd) else none
def e_I0 : z_MI := fun a i => e_gi (e_ce0 a)[i]?
def e_J0 : z_MJ := fun a i => e_gj (e_ce0 a)[i]?
def e_P0 : z_MP := fun a i => e_gp (e_ce0 a)[i]?
def e_leq : List Nat → List Nat → Bool
  | [], [] => true
  | a :: l, b :: m => Nat.beq a b && e_leq l m
  | _, _ => false
theorem e_leq_ok : ∀ {l m : List Nat}, e_leq l m = true → l = m
  | [], [], _ => rfl
  | a :: l, b :: m, h => by
    have h : (Nat.beq a b && e_leq l m) = true := h
    obtain ⟨h1, h2⟩ := (Bool.and_eq_true _ _).mp h
    rw [Nat.eq_of_beq_eq_true h1, e_leq_ok h2]
  | [], _ :: _, h => by cases h
  | _ :: _, [], h => by cases h
def e_all : (Nat → Bool) → Nat → Bool
  | _, 0 => true
  | f, n + 1 => f n && e_all f n
theorem e_all_ok {f : Nat → Bool} : ∀ {n : Nat}, e_all f n = true → ∀ a, a < n → f a = true
  | 0, _, a, h => absurd h (Nat.not_lt_zero a)
  | n + 1, h, a, ha => by
    have h : (f n && e_all f n) = true := h
    obtain ⟨h1, h2⟩ := (Bool.and_eq_true _ _).mp h
    by_cases e : a = n
    · rw [e]; exact h1
    · exact e_all_ok h2 a (by omega)
def e_cS (a : Nat) : Bool := match z_tab a with
  | none => true
  | some k => match e_s2.1 a with
    | some c => Nat.beq c.1 k.1 && e_leq (c.2.map e_kd) k.2
    | none => false
def e_cC (a : Nat) : Bool := (e_ce0 a).all e_cl
def e_q32 (x y : Int32) : Bool := decide (x = y)
/-- what is looked at of a row of numbers -/
def e_z (a n : Nat) (v : Int32) : Bool := e_all (fun i => decide (e_I0 a i = v)) n
def e_lawb (k : Nat) : Bool := decide (e_P0 34 k = some (71 + 3 * k)) && (decide (e_P0 (71 + 3 * k) 0 = some (72 + 3 * k)) && (decide (e_P0 (71 + 3 * k) 3 = some (73 + 3 * k)) && (decide (e_I0 (71 + 3 * k) 1 = 0) && (decide (e_I0 (71 + 3 * k) 2 = 0) && (decide (e_S (71 + 3 * k) = some (6, [2, 0, 0, 2])) && (decide (e_S (72 + 3 * k) = some (20, [])) && decide (e_S (73 + 3 * k) = some (20, List.replicate 32 0))))))))
set_option maxRecDepth 1000000 in
set_option maxHeartbeats 40000000 in
theorem e_f1 : (e_i1.isSome = true ∧ e_s1.2.1 = 83) ∧ (e_i2.isSome = true ∧ e_s2.2.1 = 130 ∧ Nat.ble e_s2.2.2 60000 = true ∧ (e_s2.1 0).isNone = true) := by decide +kernel
set_option maxRecDepth 1000000 in
set_option maxHeartbeats 40000000 in
theorem e_f2 : e_all e_cS 130 = true ∧ e_all e_cC 130 = true ∧ (z_pl.all fun q => decide (e_P0 q.1 q.2.1 = some q.2.2)) = true := by decide +kernel
set_option maxRecDepth 1000000 in
set_option maxHeartbeats 40000000 in
theorem e_f3 : (e_z 85 24 0 = true ∧ e_z 86 24 0 = true ∧ e_z 87 24 0 = true ∧ e_z 88 24 0 = true ∧ e_z 89 24 0 = true ∧ e_z 90 24 0 = true) ∧ (e_z 14 24 0 = true ∧ e_z 15 24 0 = true ∧ e_z 16 24 0 = true ∧ e_z 17 24 0 = true) ∧ (e_z 84 6 0 = true ∧ e_z 19 6 0 = true ∧ e_z 101 68 1000 = true ∧ e_z 29 17 1000 = true ∧ e_z 30 17 1000 = true ∧ e_z 31 17 1000 = true ∧ e_z 32 17 1000 = true) ∧ (e_z 33 4 0 = true ∧ e_z 103 4 0 = true ∧ e_I0 27 2 = 0 ∧ e_I0 83 32 = 0 ∧ e_I0 22 0 = 1 ∧ e_I0 9 1 = 0 ∧ e_I0 83 16 = 0) ∧ (e_z 21 4 0 = true ∧ e_z 125 4 0 = true ∧ e_z 104 4 0 = true) ∧ e_all (fun s => decide (e_P0 18 s = none)) 24 = true ∧ e_all e_lawb 4 = true ∧ (e_all (fun i => decide (e_J0 11 i = k_w1.getD i 0)) 10 = true ∧ e_all (fun i => decide (e_J0 12 i = k_w2.getD i 0)) 18 = true ∧ e_all (fun i => decide (e_I0 1 i = z_n (k_tb.getD i 0))) 8 = true ∧ e_all (fun i => decide (e_I0 7 i = z_n (k_sg.getD i 0))) 8 = true ∧ e_I0 4 1 = 0) := by decide +kernel
theorem e_z_ok {a n : Nat} {v : Int32} (h : e_z a n v = true) {i : Nat} (hi : i < n) : e_I0 a i = v := of_decide_eq_true (e_all_ok h i hi)
/-- the heap is what its shapes and numbers say -/
theorem e_vs {I : z_MI} {J : z_MJ} {P : z_MP} {a : Nat} {vs : List Value} (hI : ∀ i, I a i = e_gi vs[i]?) (hJ : ∀ i, J a i = e_gj vs[i]?) (hP : ∀ i, P a i = e_gp vs[i]?) (hc : vs.all e_cl = true) : z_vs I J P a (vs.map e_kd) = vs := by
  refine List.ext_getElem? fun i => ?_
  rw [z_vs_get, List.getElem?_map]
  cases e : vs[i]? with
  | none => rfl
  | some v =>
    have hv : e_cl v = true := List.all_eq_true.mp hc v (List.mem_of_getElem? e)
    have hI := hI i
    have hJ := hJ i
    have hP := hP i
    rw [e] at hI hJ hP
    show some (z_v I J P a i (e_kd v)) = some v
    cases v with
    | int x => exact congrArg (fun y => some (Value.int y)) hI
    | long x => exact congrArg (fun y => some (Value.long y)) hJ
    | null => exact congrArg (fun y => some (q_rf y)) hP
    | ref x => exact congrArg (fun y => some (q_rf y)) hP
    | _ => cases hv
theorem e_h_le {n : Nat × Nat} {a : Nat} {c : q_C} (h : (z_h e_S e_I0 e_J0 e_P0 n).1 a = some c) : e_s2.1 a = some c := by
  have h : (e_S a).map (fun c => (c.1, z_vs e_I0 e_J0 e_P0 a c.2)) = some c := h
  unfold e_S at h
  by_cases ha : a < 130
  · rw [if_pos ha, Option.map_map] at h
    obtain ⟨e, h1, h2⟩ := Option.map_eq_some_iff.mp h
    have hcl : e.2.all e_cl = true := by
      have := e_all_ok e_f2.2.1 a ha
      unfold e_cC e_ce0 at this
      rw [h1] at this; exact this
    have k : e_ce0 a = e.2 := by
      unfold e_ce0
      rw [h1]
    have := e_vs (I := e_I0) (J := e_J0) (P := e_P0) (a := a) (vs := e.2) (fun i => by unfold e_I0; rw [k]) (fun i => by unfold e_J0; rw [k]) (fun i => by unfold e_P0; rw [k]) hcl
    rw [h1, ← h2]
    exact congrArg some (Prod.ext rfl this.symm)
  · rw [if_neg ha] at h; cases h
theorem e_St : z_St e_S := by
  intro a c hc
  have ha : a < 130 := by
    cases a with
    | zero => omega
    | succ a =>
      unfold z_tab at hc
      simp only at hc
      by_cases q : 70 ≤ a ∧ a < 82
      · omega
      · rw [if_neg q] at hc
        have := (List.getElem?_eq_some_iff.mp hc).1
        rw [show z_tl.length = 129 from rfl] at this; omega
  have h := e_all_ok e_f2.1 a ha
  unfold e_cS at h
  rw [hc] at h
  unfold e_S
  rw [if_pos ha]
  cases e : e_s2.1 a with
  | none => rw [e] at h; cases h
  | some x =>
    rw [e] at h
    obtain ⟨h1, h2⟩ := (Bool.and_eq_true _ _).mp h
    exact congrArg some (Prod.ext (Nat.eq_of_beq_eq_true h1) (e_leq_ok h2))
theorem e_Pt : z_Pt e_P0 := fun q hq => of_decide_eq_true (List.all_eq_true.mp e_f2.2.2 q hq)
def e_K0 : Nat → Bool := fun a => decide (a = 73) || decide (a = 76) || decide (a = 79) || decide (a = 82)
theorem e_K0_t {k : Nat} (hk : k < 4) : e_K0 (73 + 3 * k) = true := by
  have h : ∀ k, k < 4 → e_K0 (73 + 3 * k) = true := by decide
  exact h k hk
theorem e_K0_f {k : Nat} (hk : k < 4) : e_K0 (71 + 3 * k) = false ∧ e_K0 (72 + 3 * k) = false := by
  have h : ∀ k, k < 4 → e_K0 (71 + 3 * k) = false ∧ e_K0 (72 + 3 * k) = false := by decide
  exact h k hk
theorem e_dk {I : z_MI} {J : z_MJ} {s : Nat} (h : z_ln I s = 0) : d_ok (z_Ds I J s) := by
  have h : (z_Ds I J s).1 = 0 := h
  exact ⟨by omega, fun l hl => absurd hl (by omega), fun l k hl => absurd hl (by omega)⟩
theorem e_nn (g : Nat → Option q_C) (σ : q_H) : (q_pt g (q_mk σ 21 (List.replicate 1 (.long 0)))).2 = (σ.2.1 + 1, σ.2.2 + 1) := rfl
theorem e_Inv : Inv e_S e_I0 e_J0 e_P0 e_K0 131 := by
  obtain ⟨⟨a1, a2, a3, a4, a5, a6⟩, ⟨b1, b2, b3, b4⟩, ⟨c1, c2, c3, c4, c5, c6, c7⟩, ⟨d1, d2, d3, d4, d5, d6, d7⟩, ⟨e1, e2, e3⟩, f1, g1, ⟨h1, h2, h3, h4, h5⟩⟩ := e_f3
  have n0 : ((0 : Int32)).toNatClampNeg = 0 := by decide
  have ln : ∀ s, s < 24 → z_ln e_I0 s = 0 := fun s hs => by unfold z_ln; rw [e_z_ok a6 hs]; exact n0
  have vi : ∀ s, s < 24 → z_vi e_I0 s = 0 := fun s hs => by unfold z_vi; rw [e_z_ok a3 hs]; exact n0
  have th : ∀ s, s < 24 → z_th e_I0 s = false := fun s hs => by
    unfold z_th
    rw [e_z_ok a1 hs]; exact decide_eq_false (fun h => h.1 rfl)
  refine ⟨⟨e_St, e_Pt, ⟨Nat.le_refl _, fun a ha => ?_⟩, ⟨fun s hs => ⟨by rw [e_z_ok a6 hs, ln s hs]; rfl, by rw [ln s hs]; omega⟩, fun s hs => ⟨by rw [e_z_ok a3 hs, vi s hs]; rfl, by rw [vi s hs]; omega⟩, fun s hs => e_dk (ln s hs), fun s hs => ⟨Or.inl (e_z_ok a1 hs), Or.inl (e_z_ok a2 hs), fun h => ?_, ⟨0, e_z_ok a4 hs, by omega⟩, ⟨0, e_z_ok a5 hs, by omega⟩⟩, fun v hv => Or.inl (e_z_ok c1 hv), fun i hi => ⟨1000, e_z_ok c3 hi, by omega⟩, ⟨0, d4, by omega, fun i hi => absurd hi (by omega)⟩⟩, ⟨fun s hs => ⟨by rw [e_z_ok b1 hs, e_z_ok a1 hs], by rw [e_z_ok b2 hs, e_z_ok a3 hs], by rw [e_z_ok b3 hs, e_z_ok a4 hs], by rw [e_z_ok b4 hs, e_z_ok a5 hs]⟩, fun v hv => by rw [e_z_ok c2 hv, e_z_ok c1 hv], fun t k ht hk => ?_, fun i hi => by rw [e_z_ok d1 hi, e_z_ok d2 hi], by rw [d3, d4]⟩, fun s hs => Or.inl ⟨th s hs, of_decide_eq_true (e_all_ok f1 s hs)⟩⟩, Or.inr d5, ⟨0, by omega, d6, d7, fun i hi => absurd hi (by omega)⟩, fun m hm => Or.inl ⟨e_z_ok e1 hm, e_z_ok e2 hm⟩, fun k hk => ?_, fun i hi => of_decide_eq_true (e_all_ok h1 i hi), fun i hi => of_decide_eq_true (e_all_ok h2 i hi), fun i hi => of_decide_eq_true (e_all_ok h3 i hi), fun i hi => of_decide_eq_true (e_all_ok h4 i hi), h5⟩
  · unfold e_K0 at ha
    simp only [Bool.or_eq_true, decide_eq_true_eq] at ha
    omega
  · rw [e_z_ok a2 hs] at h; exact absurd h (by decide)
  · rw [e_z_ok c3 (show 17 * t + k < 68 by omega)]
    have ht : t = 0 ∨ t = 1 ∨ t = 2 ∨ t = 3 := by omega
    rcases ht with rfl | rfl | rfl | rfl
    · exact e_z_ok c4 hk
    · exact e_z_ok c5 hk
    · exact e_z_ok c6 hk
    · exact e_z_ok c7 hk
  · have l := e_all_ok g1 k hk
    unfold e_lawb at l
    simp only [Bool.and_eq_true, decide_eq_true_eq] at l
    obtain ⟨l1, l2, l3, l4, l5, l6, l7, l8⟩ := l
    obtain ⟨k1, k2⟩ := e_K0_f hk
    refine ⟨71 + 3 * k, 72 + 3 * k, 73 + 3 * k, 0, 0, 0, k_lw [], l1, ⟨⟨by omega, by omega, by omega, k1⟩, ⟨by omega, by omega, by omega, k2⟩, by omega, by omega, e_K0_t hk⟩, ⟨l6, l2, l3, l4, l5, e_z_ok e3 hk, by omega⟩, ⟨l7, l8⟩, ?_, ?_⟩
    · exact l_C_of (L := []) (fun x hx => absurd hx List.not_mem_nil) rfl (Nat.le_refl _) (by omega) (fun j hj => absurd hj (Nat.not_lt_zero _))
    · exact l_M_of (L := []) hk (by omega) (fun x hx => absurd hx List.not_mem_nil) trivial rfl
theorem e_r1 : f_Rs_init 8 (q_mk e_s0 0 e_v0) = some ((), e_s1) := by
  have h : e_i1.isSome = true := e_f1.1.1
  show e_i1 = some ((), e_s1)
  unfold e_s1
  cases e : e_i1 with
  | none => rw [e] at h; cases h
  | some r => rfl
theorem e_r2 : f_Mo_init 83 (q_mk e_s1 12 e_v12) = some ((), e_s2) := by
  have h : e_i2.isSome = true := e_f1.2.1
  show e_i2 = some ((), e_s2)
  unfold e_s2
  cases e : e_i2 with
  | none => rw [e] at h; cases h
  | some r => rfl

/-- the script alone -/
def e_g0 (sc : q_C) : Nat → Option q_C := fun q => if q = 0 then some sc else none
theorem e_I_0 (sc : q_C) : w_I (e_s2.2.2 + 1) 0 sc (q_pt (e_g0 sc) (q_mk e_s2 21 (List.replicate 1 (.long 0)))) := by
  have n130 : e_s2.2.1 = 130 := e_f1.2.2.1
  have s0 : e_s2.1 0 = none := Option.isNone_iff_eq_none.mp e_f1.2.2.2.2
  have mk : ∀ q, (q_mk e_s2 21 (List.replicate 1 (.long 0))).1 q = if q = 130 then some (21, [.long 0]) else e_s2.1 q := fun q => by
    show (if q = e_s2.2.1 then some (21, List.replicate 1 (Value.long 0)) else e_s2.1 q) = _
    rw [n130]; rfl
  have h0 : (q_pt (e_g0 sc) (q_mk e_s2 21 (List.replicate 1 (.long 0)))).1 0 = some sc := by
    rw [q_pt_no (by rw [mk, if_neg (by decide)]; exact s0)]
    exact if_pos rfl
  have h130 : (q_pt (e_g0 sc) (q_mk e_s2 21 (List.replicate 1 (.long 0)))).1 130 = some (21, [.long 0]) := q_pt_at (by rw [mk, if_pos rfl])
  refine ⟨e_S, e_I0, e_J0, e_P0, e_K0, (131, e_s2.2.2 + 1), (q_pt (e_g0 sc) (q_mk e_s2 21 (List.replicate 1 (.long 0)))).1, 0, ?_, e_Inv, ⟨?_, ?_⟩, ⟨h0, h130⟩, by show 131 ≤ 131 + 60 * 0; omega, by show e_s2.2.2 + 1 ≤ _; omega⟩
  · refine Prod.ext (funext fun q => ?_) ?_
    · show (q_pt (e_g0 sc) (q_mk e_s2 21 (List.replicate 1 (.long 0)))).1 q = match (z_h e_S e_I0 e_J0 e_P0 (131, e_s2.2.2 + 1)).1 q with | some x => some x | none => (q_pt (e_g0 sc) (q_mk e_s2 21 (List.replicate 1 (.long 0)))).1 q
      cases e : (z_h e_S e_I0 e_J0 e_P0 (131, e_s2.2.2 + 1)).1 q with
      | none => rfl
      | some c =>
        have hq : q < 130 := by
          by_cases h : q < 130
          · exact h
          · have e : (e_S q).map (fun c => (c.1, z_vs e_I0 e_J0 e_P0 q c.2)) = some c := e
            unfold e_S at e
            rw [if_neg h] at e; cases e
        exact q_pt_at (by rw [mk, if_neg (by omega)]; exact e_h_le e)
    · rw [e_nn, n130]; rfl
  · unfold e_S
    rw [if_pos (by decide), s0]; rfl
  · unfold e_S
    rw [if_neg (by decide)]
set_option maxRecDepth 100000 in
theorem e_start {fo : Option Nat} {d : Nat} (hd : 70 ≤ d) {L : Nat} {xs : Nat → Int32} (hL : L ≤ 3584) : ∃ σ', w_F (e_s2.2.2 + 1) σ' ∧ q_G (q_rf fo) d m_Lw_law (.inl (some (.int 1))) σ' 0 [some (.ref 0), none, none, none, none, none, none] [] (q_pt (e_g0 (w_sc L xs)) e_s0) := by
  have n83 : e_s1.2.1 = 83 := e_f1.1.2
  have n130 : e_s2.2.1 = 130 := e_f1.2.2.1
  obtain ⟨σ', f, g⟩ := w_loop (fo := fo) hd hL (m := e_s2.2.2 + 1) 512 0 _ rfl (Nat.zero_le _) (e_I_0 (w_sc L xs))
  refine ⟨σ', f, ?_⟩
  have c1 : q_Rel (q_rf fo) q_Ms d 105 [.ref 8] (q_pt (e_g0 (w_sc L xs)) (q_mk e_s0 0 e_v0)) (.inl none) (q_pt (e_g0 (w_sc L xs)) e_s1) := q_Rel_pt (t_Rs_init (by omega) e_r1)
  have c2 : q_Rel (q_rf fo) q_Ms d 169 [.ref 83] (q_pt (e_g0 (w_sc L xs)) (q_mk e_s1 12 e_v12)) (.inl none) (q_pt (e_g0 (w_sc L xs)) e_s2) := q_Rel_pt (t_Mo_init (by omega) e_r2)
  refine j_newk2 e_v0 rfl rfl rfl (q_mk_pt _ _) rfl (j_dup rfl rfl (j_i0 [.ref 8] [.ref 8] rfl rfl rfl rfl rfl rfl c1 ?_))
  refine j_astore_n [some (.ref 0), some (.ref 8), none, none, none, none, none] rfl rfl (Or.inr rfl) rfl ?_
  refine j_newk2 e_v12 rfl rfl rfl (q_mk_pt _ _) n83 (j_dup rfl rfl (j_i0 [.ref 83] [.ref 83] rfl rfl rfl rfl rfl rfl c2 ?_))
  refine j_astore_n [some (.ref 0), some (.ref 8), some (.ref 83), none, none, none, none] rfl rfl (Or.inr rfl) rfl ?_
  refine j_iconst (1 : Int32) rfl k32_1 (j_newk 1 (.long 0) rfl rfl rfl (by decide) (by decide) (q_mk_pt _ _) n130 ?_)
  refine j_astore_n [some (.ref 0), some (.ref 8), some (.ref 83), some (.ref 130), none, none, none] rfl rfl (Or.inr rfl) rfl ?_
  refine j_iconst (0 : Int32) rfl k32_0 (j_istore [some (.ref 0), some (.ref 8), some (.ref 83), some (.ref 130), some (.int (0 : Int32)), none, none] rfl rfl (Or.inr rfl) rfl ?_)
  exact g
