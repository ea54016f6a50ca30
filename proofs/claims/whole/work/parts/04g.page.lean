/-! Pages: what was READ of a SHEET, as numbers. D: how many lines, ints (0 sex, 1 age, 2 wife, 3 sister, 4 tags), longs (0 name, 1 father, 2 mother). -/
abbrev z_D : Type := Nat × (Nat → Nat → Int32) × (Nat → Nat → Int64)
def d_kin (D : z_D) (a b : Nat) : Nat :=
  if (0 < D.2.2 1 a ∧ D.2.2 1 a = D.2.2 1 b) ∧ (0 < D.2.2 2 a ∧ D.2.2 2 a = D.2.2 2 b) then 2
  else if (0 < D.2.2 1 a ∧ D.2.2 1 a = D.2.2 1 b) ∨ (0 < D.2.2 2 a ∧ D.2.2 2 a = D.2.2 2 b) then 1 else 0
def d_hb (D : z_D) (l : Nat) : Nat := (D.2.1 2 l).toNatClampNeg
def d_wf (D : z_D) (l : Nat) : Bool := decide (l < D.1 ∧ ¬ D.2.1 2 l = -z_n 1)
def d_so (D : z_D) (l : Nat) : Nat :=
  if 0 < d_kin D l (d_hb D l) then 2 - d_kin D l (d_hb D l)
  else if ¬ D.2.1 3 l = D.2.1 2 l then 4 else if D.2.1 4 l &&& z_n 1 = z_n 1 then 3 else 2
def d_ot (D : z_D) (a : Nat) (w : Int32) (b i : Nat) : Nat := if ¬ i = a ∧ ¬ i = b ∧ D.2.1 0 i = w ∧ d_kin D i a = 2 then 1 else 0
def d_tk (D : z_D) (l : Nat) : Nat :=
  if d_so D l = 0 ∨ d_so D l = 2 then
    if z_n 0 < D.2.1 4 l &&& z_n 2 ∨ z_n 0 < D.2.1 4 (d_hb D l) &&& z_n 2 then 2
    else if 0 < z_sum D.1 (d_ot D l (z_n 0) (d_hb D l)) then 0 else 1
  else 0
def d_in (D : z_D) (q t l : Nat) : Nat := if d_wf D l = true ∧ d_so D l = q ∧ d_tk D l = t then 1 else 0
def d_ct (D : z_D) (q t : Nat) : Nat := z_sum D.1 (d_in D q t)
/-- the SHEET of the reference's rows; of a MARK's rows -/
def z_Ds (I : z_MI) (J : z_MJ) (s : Nat) : z_D := (z_ln I s, fun k l => if k < 5 then I (91 + k) (12 * s + l) else z_n 0, fun k l => if k < 3 then J (96 + k) (12 * s + l) else 0)
def z_Dm (I : z_MI) (J : z_MJ) (m s : Nat) : z_D := ((I 127 (144 * m + 6 * s + 5)).toNatClampNeg, fun k l => if k < 5 then I 128 (1440 * m + 5 * (12 * s + l) + k) else z_n 0, fun k l => if k < 3 then J 129 (864 * m + 3 * (12 * s + l) + k) else 0)
theorem z_kin_D (I : z_MI) (J : z_MJ) (s a b : Nat) : z_kin J (12 * s + a) (12 * s + b) = d_kin (z_Ds I J s) a b := rfl
theorem z_hb_D (I : z_MI) (J : z_MJ) (s l : Nat) : z_hb I (12 * s + l) = d_hb (z_Ds I J s) l := rfl
theorem z_so_D (I : z_MI) (J : z_MJ) (s l : Nat) : z_so I J s l = d_so (z_Ds I J s) l := rfl
theorem z_ot_D (I : z_MI) (J : z_MJ) (s a : Nat) (w : Int32) (b i : Nat) : z_ot I J s (12 * s + a) w (12 * s + b) i = d_ot (z_Ds I J s) a w b i := by
  unfold z_ot d_ot
  rw [z_kin_D I J]
  have e1 : (12 * s + i = 12 * s + a) = (i = a) := propext (by omega)
  have e2 : (12 * s + i = 12 * s + b) = (i = b) := propext (by omega)
  simp only [e1, e2]
  rfl
theorem z_tk_D (I : z_MI) (J : z_MJ) (s l : Nat) : z_tk I J s l = d_tk (z_Ds I J s) l := by
  unfold z_tk d_tk
  rw [z_so_D, z_hb_D I J, z_sum_eq (fun i _ => z_ot_D I J s l (z_n 0) (d_hb (z_Ds I J s) l) i)]
  rfl
theorem z_wf_D (I : z_MI) (J : z_MJ) (s l : Nat) : z_wf I s l = (z_th I s && d_wf (z_Ds I J s) l) := by
  unfold z_wf d_wf
  rw [Bool.eq_iff_iff]
  simp only [decide_eq_true_eq, Bool.and_eq_true]
  exact Iff.rfl
theorem d_so_le (D : z_D) (l : Nat) : d_so D l ≤ 4 := by
  unfold d_so
  split
  · omega
  · split
    · omega
    · split <;> omega
theorem d_tk_le (D : z_D) (l : Nat) : d_tk D l ≤ 2 := by
  unfold d_tk
  split
  · split
    · omega
    · split <;> omega
  · omega
/-- what a SHEET's rows hold -/
def d_ok (D : z_D) : Prop := D.1 ≤ 12 ∧ (∀ l, l < D.1 → (D.2.1 0 l = z_n 0 ∨ D.2.1 0 l = z_n 1) ∧ (∃ a, D.2.1 1 l = z_n a ∧ a ≤ 120) ∧
  (D.2.1 2 l = -z_n 1 ∨ (D.2.1 2 l = z_n (d_hb D l) ∧ d_hb D l < D.1)) ∧ (D.2.1 3 l = -z_n 1 ∨ ∃ x, D.2.1 3 l = z_n x ∧ x < D.1) ∧ (∃ t, D.2.1 4 l = z_n t ∧ t < 16) ∧
  (D.2.2 1 l = 0 ∨ 0 < D.2.2 1 l) ∧ (D.2.2 2 l = 0 ∨ 0 < D.2.2 2 l)) ∧ ∀ l k, l < D.1 → k < D.1 → D.2.2 0 l = D.2.2 0 k → l = k
/-- the tags as the class keeps them -/
def d_tg (D : z_D) (l : Nat) : Nat := (D.2.1 4 l).toNatClampNeg + (if D.2.2 1 l = 0 then 0 else 16) + (if D.2.2 2 l = 0 then 0 else 32) + (if D.2.1 2 l = -z_n 1 then 0 else 64) + (if D.2.1 3 l = -z_n 1 then 0 else 128)
/-- a page's rows, as they are made -/
def z_ps (S : z_SH) (P : z_MP) (p : Nat) : Prop := S p = some (8, [0, 2, 2, 2, 2, 2, 2, 2, 2, 2, 2, 2]) ∧ (∀ j, 1 ≤ j → j ≤ 11 → P p j = some (p + j)) ∧
  (∀ j, 1 ≤ j → j ≤ 3 → S (p + j) = some (21, List.replicate 12 1)) ∧ S (p + 4) = some (22, List.replicate 12 0) ∧ (∀ j, 5 ≤ j → j ≤ 10 → S (p + j) = some (20, List.replicate 12 0)) ∧
  S (p + 11) = some (9, [2]) ∧ P (p + 11) 0 = some (p + 12) ∧ S (p + 12) = some (20, List.replicate 15 0)
/-- a page's numbers: D, and what was settled of it -/
def z_pd (I : z_MI) (J : z_MJ) (p : Nat) (D : z_D) : Prop := I p 0 = z_n D.1 ∧ (∀ k l, k < 3 → l < D.1 → J (p + 1 + k) l = D.2.2 k l) ∧
  (∀ l, l < D.1 → I (p + 4) l = D.2.1 0 l ∧ I (p + 5) l = D.2.1 1 l ∧ I (p + 6) l = z_n (d_tg D l) ∧ I (p + 7) l = D.2.1 2 l ∧ I (p + 8) l = D.2.1 3 l)
def z_pt (I : z_MI) (p : Nat) (D : z_D) : Prop := (∀ l, l < D.1 → I (p + 9) l = (if d_wf D l = true then z_n (d_so D l) else -z_n 1) ∧ I (p + 10) l = (if d_wf D l = true ∧ (d_so D l = 0 ∨ d_so D l = 2) then z_n (d_tk D l) else -z_n 1)) ∧
  ∀ q t, q < 5 → t < 3 → I (p + 12) (q * 3 + t) = z_n (d_ct D q t)
def z_pg (S : z_SH) (I : z_MI) (J : z_MJ) (P : z_MP) (K : Nat → Bool) (n p : Nat) (D : z_D) : Prop := (131 ≤ p ∧ p + 12 < n ∧ ∀ j, j ≤ 12 → K (p + j) = false) ∧ z_ps S P p ∧ z_pd I J p D ∧ z_pt I p D
/-- rows of a page -/
theorem z_ps_r {S : z_SH} {P : z_MP} {p : Nat} (h : z_ps S P p) :
    (∀ I J n, q_ob (z_h S I J P n) 8 p = some (z_vs I J P p [0, 2, 2, 2, 2, 2, 2, 2, 2, 2, 2, 2])) ∧
    (∀ I J n, q_ob (z_h S I J P n) 9 (p + 11) = some (z_vs I J P (p + 11) [2])) ∧
    (∀ I J n, q_gi (q_gf (z_h S I J P n) 8 p 0) = some (I p 0)) ∧
    (∀ I J n, q_gr (q_gf (z_h S I J P n) 8 p 1) = some (p + 1)) ∧
    (∀ I J n, q_gr (q_gf (z_h S I J P n) 8 p 2) = some (p + 2)) ∧
    (∀ I J n, q_gr (q_gf (z_h S I J P n) 8 p 3) = some (p + 3)) ∧
    (∀ I J n, q_gr (q_gf (z_h S I J P n) 8 p 4) = some (p + 4)) ∧
    (∀ I J n, q_gr (q_gf (z_h S I J P n) 8 p 5) = some (p + 5)) ∧
    (∀ I J n, q_gr (q_gf (z_h S I J P n) 8 p 6) = some (p + 6)) ∧
    (∀ I J n, q_gr (q_gf (z_h S I J P n) 8 p 7) = some (p + 7)) ∧
    (∀ I J n, q_gr (q_gf (z_h S I J P n) 8 p 8) = some (p + 8)) ∧
    (∀ I J n, q_gr (q_gf (z_h S I J P n) 8 p 9) = some (p + 9)) ∧
    (∀ I J n, q_gr (q_gf (z_h S I J P n) 8 p 10) = some (p + 10)) ∧
    (∀ I J n, q_gr (q_gf (z_h S I J P n) 8 p 11) = some (p + 11)) ∧
    (∀ I J n i, i < 12 → q_gl' (q_ga (z_h S I J P n) 21 (p + 1) (z_n i)) = some (J (p + 1) i)) ∧
    (∀ I J n i, i < 12 → q_gl' (q_ga (z_h S I J P n) 21 (p + 2) (z_n i)) = some (J (p + 2) i)) ∧
    (∀ I J n i, i < 12 → q_gl' (q_ga (z_h S I J P n) 21 (p + 3) (z_n i)) = some (J (p + 3) i)) ∧
    (∀ I J n i, i < 12 → q_gi (q_ga (z_h S I J P n) 22 (p + 4) (z_n i)) = some (I (p + 4) i)) ∧
    (∀ I J n i, i < 12 → q_gi (q_ga (z_h S I J P n) 20 (p + 5) (z_n i)) = some (I (p + 5) i)) ∧
    (∀ I J n i, i < 12 → q_gi (q_ga (z_h S I J P n) 20 (p + 6) (z_n i)) = some (I (p + 6) i)) ∧
    (∀ I J n i, i < 12 → q_gi (q_ga (z_h S I J P n) 20 (p + 7) (z_n i)) = some (I (p + 7) i)) ∧
    (∀ I J n i, i < 12 → q_gi (q_ga (z_h S I J P n) 20 (p + 8) (z_n i)) = some (I (p + 8) i)) ∧
    (∀ I J n i, i < 12 → q_gi (q_ga (z_h S I J P n) 20 (p + 9) (z_n i)) = some (I (p + 9) i)) ∧
    (∀ I J n i, i < 12 → q_gi (q_ga (z_h S I J P n) 20 (p + 10) (z_n i)) = some (I (p + 10) i)) ∧
    (∀ I J n, q_gr (q_gf (z_h S I J P n) 9 (p + 11) 0) = some (p + 12)) ∧
    (∀ I J n, q_len' (z_h S I J P n) (p + 12) = some (z_n 15)) ∧
    (∀ I J n i, i < 15 → q_gi (q_ga (z_h S I J P n) 20 (p + 12) (z_n i)) = some (I (p + 12) i)) := by
  obtain ⟨h0, h1, h2, h3, h4, h5, h6, h7⟩ := h
  refine ⟨fun _ _ _ => z_ob h0, fun _ _ _ => z_ob h5, fun _ _ _ => z_gi h0 rfl, ?_, ?_, ?_, ?_, ?_, ?_, ?_, ?_, ?_, ?_, ?_, ?_, ?_, ?_, ?_, ?_, ?_, ?_, ?_, ?_, ?_, fun _ _ _ => z_gr h5 rfl h6, fun _ _ _ => z_len h7 (by decide) (by rw [List.length_replicate]), fun _ _ _ i hi => z_gia h7 (by omega) (z_rpl hi)⟩
  all_goals first
    | exact fun _ _ _ => z_gr h0 rfl (h1 _ (by omega) (by omega))
    | exact fun _ _ _ i hi => z_gla (h2 _ (by omega) (by omega)) (by omega) (z_rpl hi)
    | exact fun _ _ _ i hi => z_gia h3 (by omega) (z_rpl hi)
    | exact fun _ _ _ i hi => z_gia (h4 _ (by omega) (by omega)) (by omega) (z_rpl hi)
