/-! The small heap as shapes and numbers: S an object's tag and the kinds of its slots (0 int, 1 long, 2 reference), I, J, P what stands there. -/
def z_n (n : Nat) : Int32 := Int32.ofNat n
def z_b (c : Prop) [Decidable c] : Int32 := if c then z_n 1 else z_n 0
theorem z_lits : ((0 : Int32) = z_n 0) ∧ ((1 : Int32) = z_n 1) ∧ ((2 : Int32) = z_n 2) ∧ ((3 : Int32) = z_n 3) ∧ ((4 : Int32) = z_n 4) ∧ ((5 : Int32) = z_n 5) ∧ ((6 : Int32) = z_n 6) ∧ ((7 : Int32) = z_n 7) ∧ ((8 : Int32) = z_n 8) ∧ ((9 : Int32) = z_n 9) ∧ ((10 : Int32) = z_n 10) ∧ ((11 : Int32) = z_n 11) ∧ ((12 : Int32) = z_n 12) ∧ ((13 : Int32) = z_n 13) ∧ ((14 : Int32) = z_n 14) ∧ ((15 : Int32) = z_n 15) ∧ ((16 : Int32) = z_n 16) ∧ ((17 : Int32) = z_n 17) ∧ ((20 : Int32) = z_n 20) ∧ ((21 : Int32) = z_n 21) ∧ ((22 : Int32) = z_n 22) ∧ ((23 : Int32) = z_n 23) ∧ ((24 : Int32) = z_n 24) ∧ ((25 : Int32) = z_n 25) ∧ ((26 : Int32) = z_n 26) ∧ ((27 : Int32) = z_n 27) ∧ ((28 : Int32) = z_n 28) ∧ ((29 : Int32) = z_n 29) ∧ ((30 : Int32) = z_n 30) ∧ ((31 : Int32) = z_n 31) ∧ ((32 : Int32) = z_n 32) ∧ ((40 : Int32) = z_n 40) ∧ ((41 : Int32) = z_n 41) ∧ ((42 : Int32) = z_n 42) ∧ ((43 : Int32) = z_n 43) ∧ ((45 : Int32) = z_n 45) ∧ ((48 : Int32) = z_n 48) ∧ ((56 : Int32) = z_n 56) ∧ ((57 : Int32) = z_n 57) ∧ ((59 : Int32) = z_n 59) ∧ ((60 : Int32) = z_n 60) ∧ ((61 : Int32) = z_n 61) ∧ ((63 : Int32) = z_n 63) ∧ ((68 : Int32) = z_n 68) ∧ ((69 : Int32) = z_n 69) ∧ ((75 : Int32) = z_n 75) ∧ ((80 : Int32) = z_n 80) ∧ ((96 : Int32) = z_n 96) ∧ ((97 : Int32) = z_n 97) ∧ ((99 : Int32) = z_n 99) ∧ ((100 : Int32) = z_n 100) ∧ ((120 : Int32) = z_n 120) ∧ ((122 : Int32) = z_n 122) ∧ ((126 : Int32) = z_n 126) ∧ ((128 : Int32) = z_n 128) ∧ ((144 : Int32) = z_n 144) ∧ ((200 : Int32) = z_n 200) ∧ ((225 : Int32) = z_n 225) ∧ ((255 : Int32) = z_n 255) ∧ ((288 : Int32) = z_n 288) ∧ ((300 : Int32) = z_n 300) ∧ ((576 : Int32) = z_n 576) ∧ ((864 : Int32) = z_n 864) ∧ ((1000 : Int32) = z_n 1000) ∧ ((1440 : Int32) = z_n 1440) ∧ ((3456 : Int32) = z_n 3456) ∧ ((4000 : Int32) = z_n 4000) ∧ ((5000 : Int32) = z_n 5000) ∧ ((5760 : Int32) = z_n 5760) ∧ ((9999 : Int32) = z_n 9999) ∧ ((10000 : Int32) = z_n 10000) ∧ ((20000 : Int32) = z_n 20000) ∧ ((20001 : Int32) = z_n 20001) ∧ ((20002 : Int32) = z_n 20002) ∧ ((20003 : Int32) = z_n 20003) ∧ ((20004 : Int32) = z_n 20004) ∧ ((20005 : Int32) = z_n 20005) ∧ ((20006 : Int32) = z_n 20006) ∧ ((20007 : Int32) = z_n 20007) ∧ ((20008 : Int32) = z_n 20008) := ⟨rfl, rfl, rfl, rfl, rfl, rfl, rfl, rfl, rfl, rfl, rfl, rfl, rfl, rfl, rfl, rfl, rfl, rfl, rfl, rfl, rfl, rfl, rfl, rfl, rfl, rfl, rfl, rfl, rfl, rfl, rfl, rfl, rfl, rfl, rfl, rfl, rfl, rfl, rfl, rfl, rfl, rfl, rfl, rfl, rfl, rfl, rfl, rfl, rfl, rfl, rfl, rfl, rfl, rfl, rfl, rfl, rfl, rfl, rfl, rfl, rfl, rfl, rfl, rfl, rfl, rfl, rfl, rfl, rfl, rfl, rfl, rfl, rfl, rfl, rfl, rfl, rfl, rfl, rfl, rfl⟩
theorem z_n_add (a b : Nat) : z_n a + z_n b = z_n (a + b) := (Int32.ofNat_add a b).symm
theorem z_n_mul (a b : Nat) : z_n a * z_n b = z_n (a * b) := (Int32.ofNat_mul a b).symm
theorem z_n_sub {a b : Nat} (h : b ≤ a) : z_n a - z_n b = z_n (a - b) := (Int32.ofNat_sub a b h).symm
theorem z_n_int {a : Nat} (h : a < 2147483648) : (z_n a).toInt = a := Int32.toInt_ofNat_of_lt h
theorem z_n_nat {a : Nat} (h : a < 2147483648) : (z_n a).toNatClampNeg = a := Int32.toNatClampNeg_ofNat_of_lt h
theorem z_lt {a b : Nat} (ha : a < 2147483648) (hb : b < 2147483648) : (z_n a < z_n b) = (a < b) := by
  rw [Int32.lt_iff_toInt_lt, z_n_int ha, z_n_int hb]; simp
theorem z_le {a b : Nat} (ha : a < 2147483648) (hb : b < 2147483648) : (z_n a ≤ z_n b) = (a ≤ b) := by
  rw [Int32.le_iff_toInt_le, z_n_int ha, z_n_int hb]; simp
theorem z_eq {a b : Nat} (ha : a < 2147483648) (hb : b < 2147483648) : (z_n a = z_n b) = (a = b) := by
  rw [← Int32.toInt_inj, z_n_int ha, z_n_int hb]; exact propext ⟨fun h => by omega, fun h => by omega⟩
theorem z_m1 : (-z_n 1).toInt = -1 := by decide
theorem z_ne1 {a : Nat} (ha : a < 2147483648) : (z_n a = -z_n 1) = False := by
  rw [← Int32.toInt_inj, z_n_int ha, z_m1]; exact eq_false (by omega)
theorem z_1ne {a : Nat} (ha : a < 2147483648) : (-z_n 1 = z_n a) = False := by
  rw [eq_comm (a := -z_n 1), z_ne1 ha]
theorem z_lt1 {a : Nat} (ha : a < 2147483648) : (z_n a < -z_n 1) = False := by
  rw [Int32.lt_iff_toInt_lt, z_n_int ha, z_m1]; exact eq_false (by omega)
theorem z_1lt {a : Nat} (ha : a < 2147483648) : (-z_n 1 < z_n a) = True := by
  rw [Int32.lt_iff_toInt_lt, z_n_int ha, z_m1]; exact eq_true (by omega)
theorem z_tf (p : Prop) : p = True ∨ p = False := by
  by_cases h : p
  · exact Or.inl (eq_true h)
  · exact Or.inr (eq_false h)
theorem z_div {a b : Nat} (ha : a < 2147483648) (hb : b < 2147483648) : z_n a / z_n b = z_n (a / b) := (Int32.ofNat_div ha hb).symm
theorem z_b_0 {c : Prop} [Decidable c] : (z_b c = z_n 0) = ¬ c := by
  unfold z_b; split <;> simp_all <;> decide
theorem z_b_1 {c : Prop} [Decidable c] : (z_b c = z_n 1) = c := by
  unfold z_b; split <;> simp_all <;> decide
theorem z_b_t {c : Prop} [Decidable c] (h : c) : z_b c = z_n 1 := if_pos h
theorem z_b_f {c : Prop} [Decidable c] (h : ¬ c) : z_b c = z_n 0 := if_neg h
theorem z_b_T [Decidable True] : z_b True = z_n 1 := if_pos trivial
theorem z_b_F [Decidable False] : z_b False = z_n 0 := if_neg id
theorem z_b_bool {c : Prop} [Decidable c] : z_b c = z_n 0 ∨ z_b c = z_n 1 := by unfold z_b; split <;> simp
/-- within 0 .. N or not -/
def z_o (s : Int32) (N : Nat) : Prop := s < z_n 0 ∨ z_n N < s
theorem z_in (s : Int32) (N : Nat) (hN : N < 2147483648) : (∃ k, k ≤ N ∧ s = z_n k) ∨ z_o s N := by
  by_cases h1 : s < z_n 0
  · exact Or.inr (Or.inl h1)
  · by_cases h2 : z_n N < s
    · exact Or.inr (Or.inr h2)
    · refine Or.inl ⟨s.toNatClampNeg, ?_, ?_⟩
      · have h0 : (0 : Int32) ≤ s := Int32.not_lt.mp h1
        have h3 : s ≤ z_n N := Int32.not_lt.mp h2
        rw [Int32.le_iff_toInt_le, z_n_int hN, ← Int32.cast_toNatClampNeg s h0] at h3
        omega
      · exact (Int32.ofNat_toNatClampNeg s (Int32.not_lt.mp h1)).symm
abbrev z_SH : Type := Nat → Option (Nat × List Nat)
abbrev z_MI : Type := Nat → Nat → Int32
abbrev z_MJ : Type := Nat → Nat → Int64
abbrev z_MP : Type := Nat → Nat → Option Nat
def z_v (I : z_MI) (J : z_MJ) (P : z_MP) (a i k : Nat) : Value := match k with
  | 0 => .int (I a i)
  | 1 => .long (J a i)
  | _ => q_rf (P a i)
def z_vs (I : z_MI) (J : z_MJ) (P : z_MP) (a : Nat) (ks : List Nat) : List Value := ks.mapIdx fun i k => z_v I J P a i k
def z_h (S : z_SH) (I : z_MI) (J : z_MJ) (P : z_MP) (n : Nat × Nat) : q_H := (fun a => (S a).map fun c => (c.1, z_vs I J P a c.2), n)
def z_up (I : z_MI) (a i : Nat) (v : Int32) : z_MI := fun b j => if b = a ∧ j = i then v else I b j
def z_uj (J : z_MJ) (a i : Nat) (v : Int64) : z_MJ := fun b j => if b = a ∧ j = i then v else J b j
def z_pu (P : z_MP) (a i : Nat) (v : Option Nat) : z_MP := fun b j => if b = a ∧ j = i then v else P b j
theorem z_vs_len (I : z_MI) (J : z_MJ) (P : z_MP) (a : Nat) (ks : List Nat) : (z_vs I J P a ks).length = ks.length := by simp [z_vs]
theorem z_vs_get (I : z_MI) (J : z_MJ) (P : z_MP) (a : Nat) (ks : List Nat) (i : Nat) : (z_vs I J P a ks)[i]? = ks[i]?.map (z_v I J P a i) := by simp [z_vs]
section
variable {S : z_SH} {I : z_MI} {J : z_MJ} {P : z_MP} {n : Nat × Nat} {t a i : Nat} {ks : List Nat}
theorem z_ob (h : S a = some (t, ks)) : q_ob (z_h S I J P n) t a = some (z_vs I J P a ks) := q_ob_some.mpr (by simp only [z_h, h, Option.map_some])
theorem z_gf (h : S a = some (t, ks)) : q_gf (z_h S I J P n) t a i = ks[i]?.map (z_v I J P a i) := by
  unfold q_gf
  rw [z_ob h, Option.bind_some, z_vs_get]
theorem z_gi (h : S a = some (t, ks)) (hk : ks[i]? = some 0) : q_gi (q_gf (z_h S I J P n) t a i) = some (I a i) := by rw [z_gf h, hk]; rfl
theorem z_gl (h : S a = some (t, ks)) (hk : ks[i]? = some 1) : q_gl' (q_gf (z_h S I J P n) t a i) = some (J a i) := by rw [z_gf h, hk]; rfl
theorem z_go (h : S a = some (t, ks)) (hk : ks[i]? = some 2) : q_go (q_gf (z_h S I J P n) t a i) = some (P a i) := by
  rw [z_gf h, hk]
  show q_go (some (q_rf (P a i))) = _
  cases P a i <;> rfl
theorem z_gr {b : Nat} (h : S a = some (t, ks)) (hk : ks[i]? = some 2) (hp : P a i = some b) : q_gr (q_gf (z_h S I J P n) t a i) = some b := by
  rw [z_gf h, hk]
  show q_gr (some (q_rf (P a i))) = _
  rw [hp]; rfl
theorem z_ga {σ : q_H} {v : Nat} (hi : v < 2147483648) : q_ga σ t a (z_n v) = q_gf σ t a v := by
  unfold q_ga
  rw [if_neg, z_n_nat hi]
  exact Int32.not_lt.mpr (by rw [Int32.le_iff_toInt_le, z_n_int hi]; simp)
theorem z_sa {σ : q_H} {v : Nat} {x : Value} (hi : v < 2147483648) : q_sa σ t a (z_n v) x = q_sf σ t a v x := by
  unfold q_sa
  rw [if_neg, z_n_nat hi]
  exact Int32.not_lt.mpr (by rw [Int32.le_iff_toInt_le, z_n_int hi]; simp)
theorem z_gia (h : S a = some (t, ks)) (hi : i < 2147483648) (hk : ks[i]? = some 0) : q_gi (q_ga (z_h S I J P n) t a (z_n i)) = some (I a i) := by rw [z_ga hi, z_gi h hk]
theorem z_gla (h : S a = some (t, ks)) (hi : i < 2147483648) (hk : ks[i]? = some 1) : q_gl' (q_ga (z_h S I J P n) t a (z_n i)) = some (J a i) := by rw [z_ga hi, z_gl h hk]
theorem z_goa (h : S a = some (t, ks)) (hi : i < 2147483648) (hk : ks[i]? = some 2) : q_go (q_ga (z_h S I J P n) t a (z_n i)) = some (P a i) := by rw [z_ga hi, z_go h hk]
theorem z_gra {b : Nat} (h : S a = some (t, ks)) (hi : i < 2147483648) (hk : ks[i]? = some 2) (hp : P a i = some b) : q_gr (q_ga (z_h S I J P n) t a (z_n i)) = some b := by rw [z_ga hi, z_gr h hk hp]
theorem z_len (h : S a = some (t, ks)) (ht : 20 ≤ t) {m : Nat} (hm : ks.length = m) : q_len' (z_h S I J P n) a = some (z_n m) := by
  unfold q_len'
  simp only [z_h, h, Option.map_some, z_vs_len, hm, if_pos ht]
  rfl
theorem z_set {I' : z_MI} {J' : z_MJ} {P' : z_MP} {v : Value} {k : Nat} (hk : ks[i]? = some k) (hv : z_v I' J' P' a i k = v) (ho : ∀ j k, j ≠ i → z_v I' J' P' a j k = z_v I J P a j k) : (z_vs I J P a ks).set i v = z_vs I' J' P' a ks := by
  apply List.ext_getElem?
  intro j
  rw [List.getElem?_set, z_vs_len]
  by_cases h : i = j
  · subst h
    have hl : i < ks.length := (List.getElem?_eq_some_iff.mp hk).1
    rw [if_pos rfl, if_pos hl, z_vs_get, hk, Option.map_some, hv]
  · rw [if_neg h, z_vs_get, z_vs_get]
    cases ks[j]? with
    | none => rfl
    | some k2 => rw [Option.map_some, Option.map_some, ho j k2 (fun e => h e.symm)]
theorem z_sf {I' : z_MI} {J' : z_MJ} {P' : z_MP} {v : Value} {k : Nat} (h : S a = some (t, ks)) (h8 : 8 ≤ a) (hk : ks[i]? = some k) (hv : z_v I' J' P' a i k = v) (ho : ∀ b j k, ¬ (b = a ∧ j = i) → z_v I' J' P' b j k = z_v I J P b j k) : q_sf (z_h S I J P n) t a i v = some (z_h S I' J' P' n) := by
  have hl : i < ks.length := (List.getElem?_eq_some_iff.mp hk).1
  unfold q_sf
  rw [z_ob h, Option.bind_some, if_pos ⟨h8, by rw [z_vs_len]; exact hl⟩, z_set hk hv (fun j k hj => ho a j k (fun e => hj e.2))]
  congr 1
  unfold q_up z_h
  congr 1
  funext b
  by_cases hb : b = a
  · subst hb; rw [if_pos rfl, h]; rfl
  · rw [if_neg hb]
    show (S b).map _ = (S b).map _
    cases S b with
    | none => rfl
    | some c =>
      simp only [Option.map_some, Option.some.injEq, Prod.mk.injEq, true_and]
      unfold z_vs
      apply List.ext_getElem?
      intro j
      rw [List.getElem?_mapIdx, List.getElem?_mapIdx]
      cases c.2[j]? with
      | none => rfl
      | some k2 => rw [Option.map_some, Option.map_some, ho b j k2 (fun e => hb e.1)]
theorem z_sfi {v : Int32} (h : S a = some (t, ks)) (h8 : 8 ≤ a) (hk : ks[i]? = some 0) : q_sf (z_h S I J P n) t a i (.int v) = some (z_h S (z_up I a i v) J P n) := by
  refine z_sf h h8 hk ?_ ?_
  · simp [z_v, z_up]
  · intro b j k hb
    unfold z_v z_up
    rw [if_neg hb]
theorem z_sfl {v : Int64} (h : S a = some (t, ks)) (h8 : 8 ≤ a) (hk : ks[i]? = some 1) : q_sf (z_h S I J P n) t a i (.long v) = some (z_h S I (z_uj J a i v) P n) := by
  refine z_sf h h8 hk ?_ ?_
  · simp [z_v, z_uj]
  · intro b j k hb
    unfold z_v z_uj
    rw [if_neg hb]
theorem z_sfp {v : Option Nat} (h : S a = some (t, ks)) (h8 : 8 ≤ a) (hk : ks[i]? = some 2) : q_sf (z_h S I J P n) t a i (q_rf v) = some (z_h S I J (z_pu P a i v) n) := by
  refine z_sf h h8 hk ?_ ?_
  · simp [z_v, z_pu]
  · intro b j k hb
    unfold z_v z_pu
    rw [if_neg hb]
theorem z_sfr {v : Nat} (h : S a = some (t, ks)) (h8 : 8 ≤ a) (hk : ks[i]? = some 2) : q_sf (z_h S I J P n) t a i (.ref v) = some (z_h S I J (z_pu P a i (some v)) n) := z_sfp (v := some v) h h8 hk
theorem z_sfz (h : S a = some (t, ks)) (h8 : 8 ≤ a) (hk : ks[i]? = some 2) : q_sf (z_h S I J P n) t a i .null = some (z_h S I J (z_pu P a i none) n) := z_sfp (v := none) h h8 hk
theorem z_sai {v : Int32} (h : S a = some (t, ks)) (h8 : 8 ≤ a) (hi : i < 2147483648) (hk : ks[i]? = some 0) : q_sa (z_h S I J P n) t a (z_n i) (.int v) = some (z_h S (z_up I a i v) J P n) := by rw [z_sa hi, z_sfi h h8 hk]
theorem z_sal {v : Int64} (h : S a = some (t, ks)) (h8 : 8 ≤ a) (hi : i < 2147483648) (hk : ks[i]? = some 1) : q_sa (z_h S I J P n) t a (z_n i) (.long v) = some (z_h S I (z_uj J a i v) P n) := by rw [z_sa hi, z_sfl h h8 hk]
theorem z_sap {v : Option Nat} (h : S a = some (t, ks)) (h8 : 8 ≤ a) (hi : i < 2147483648) (hk : ks[i]? = some 2) : q_sa (z_h S I J P n) t a (z_n i) (q_rf v) = some (z_h S I J (z_pu P a i v) n) := by rw [z_sa hi, z_sfp h h8 hk]
theorem z_sar {v : Nat} (h : S a = some (t, ks)) (h8 : 8 ≤ a) (hi : i < 2147483648) (hk : ks[i]? = some 2) : q_sa (z_h S I J P n) t a (z_n i) (.ref v) = some (z_h S I J (z_pu P a i (some v)) n) := by rw [z_sa hi, z_sfr h h8 hk]
theorem z_saz (h : S a = some (t, ks)) (h8 : 8 ≤ a) (hi : i < 2147483648) (hk : ks[i]? = some 2) : q_sa (z_h S I J P n) t a (z_n i) .null = some (z_h S I J (z_pu P a i none) n) := by rw [z_sa hi, z_sfz h h8 hk]
end
theorem z_up_s (I : z_MI) (a i : Nat) (v : Int32) : z_up I a i v a i = v := if_pos ⟨rfl, rfl⟩
theorem z_up_a {I : z_MI} {a i b j : Nat} {v : Int32} (h : b ≠ a) : z_up I a i v b j = I b j := if_neg fun e => h e.1
theorem z_up_i {I : z_MI} {a i b j : Nat} {v : Int32} (h : j ≠ i) : z_up I a i v b j = I b j := if_neg fun e => h e.2
theorem z_uj_s (I : z_MJ) (a i : Nat) (v : Int64) : z_uj I a i v a i = v := if_pos ⟨rfl, rfl⟩
theorem z_uj_a {I : z_MJ} {a i b j : Nat} {v : Int64} (h : b ≠ a) : z_uj I a i v b j = I b j := if_neg fun e => h e.1
theorem z_uj_i {I : z_MJ} {a i b j : Nat} {v : Int64} (h : j ≠ i) : z_uj I a i v b j = I b j := if_neg fun e => h e.2
theorem z_pu_s (I : z_MP) (a i : Nat) (v : Option Nat) : z_pu I a i v a i = v := if_pos ⟨rfl, rfl⟩
theorem z_pu_a {I : z_MP} {a i b j : Nat} {v : Option Nat} (h : b ≠ a) : z_pu I a i v b j = I b j := if_neg fun e => h e.1
theorem z_pu_i {I : z_MP} {a i b j : Nat} {v : Option Nat} (h : j ≠ i) : z_pu I a i v b j = I b j := if_neg fun e => h e.2
theorem z_sq {A B : Type} (r : A) (σ : q_H) (k : A → q_H → Option (B × q_H)) : q_sq (some (r, σ)) k = k r σ := rfl
theorem z_FU : q_FU = 1000000 := rfl
/-- makings -/
def z_us (S : z_SH) (a : Nat) (c : Nat × List Nat) : z_SH := fun b => if b = a then some c else S b
/-- a row of numbers -/
def z_ri (I : z_MI) (a : Nat) (f : Nat → Int32) : z_MI := fun b j => if b = a then f j else I b j
def z_rj (I : z_MJ) (a : Nat) (f : Nat → Int64) : z_MJ := fun b j => if b = a then f j else I b j
def z_rp (I : z_MP) (a : Nat) (f : Nat → Option Nat) : z_MP := fun b j => if b = a then f j else I b j
theorem z_mk' {S : z_SH} {I : z_MI} {J : z_MJ} {P : z_MP} {n : Nat × Nat} {t : Nat} {vs : List Value} (ks : List Nat) {f : Nat → Int32} {g : Nat → Int64} {p : Nat → Option Nat} (hl : vs.length = ks.length) (hv : ∀ i k, ks[i]? = some k → vs[i]? = some (match k with | 0 => Value.int (f i) | 1 => Value.long (g i) | _ => q_rf (p i))) :
    q_mk (z_h S I J P n) t vs = z_h (z_us S n.1 (t, ks)) (z_ri I n.1 f) (z_rj J n.1 g) (z_rp P n.1 p) (n.1 + 1, n.2 + ks.length) := by
  unfold q_mk z_h
  refine Prod.ext ?_ ?_
  · funext b
    show (if b = n.1 then some (t, vs) else _) = Option.map _ (z_us S n.1 (t, ks) b)
    unfold z_us
    by_cases hb : b = n.1
    · rw [if_pos hb, if_pos hb, Option.map_some]
      congr 2
      apply List.ext_getElem?
      intro j
      rw [z_vs_get]
      cases hk : ks[j]? with
      | none => rw [Option.map_none, List.getElem?_eq_none_iff, hl]; exact List.getElem?_eq_none_iff.mp hk
      | some k =>
        rw [hv j k hk, Option.map_some]
        unfold z_v z_ri z_rj z_rp
        simp only [if_pos hb]
    · rw [if_neg hb, if_neg hb]
      show Option.map _ (S b) = Option.map _ (S b)
      cases S b with
      | none => rfl
      | some c =>
        simp only [Option.map_some, Option.some.injEq, Prod.mk.injEq, true_and]
        apply List.ext_getElem?
        intro j
        rw [z_vs_get, z_vs_get]
        unfold z_v z_ri z_rj z_rp
        simp only [if_neg hb]
  · show ((_ : Nat), (_ : Nat)) = (_, _)
    rw [hl]
theorem z_mki {S : z_SH} {I : z_MI} {J : z_MJ} {P : z_MP} {n : Nat × Nat} {t m : Nat} : q_mk (z_h S I J P n) t (List.replicate m (.int 0)) = z_h (z_us S n.1 (t, List.replicate m 0)) (z_ri I n.1 fun _ => z_n 0) (z_rj J n.1 fun _ => 0) (z_rp P n.1 fun _ => none) (n.1 + 1, n.2 + m) := by
  have h := z_mk' (S := S) (I := I) (J := J) (P := P) (n := n) (t := t) (vs := List.replicate m (.int 0)) (List.replicate m 0) (f := fun _ => z_n 0) (g := fun _ => 0) (p := fun _ => none) (by rw [List.length_replicate, List.length_replicate]) (by
    intro i k hk
    rw [List.getElem?_replicate] at hk ⊢
    split at hk
    · rename_i h1
      rw [if_pos h1]; cases hk; rfl
    · cases hk)
  rw [List.length_replicate] at h
  exact h
theorem z_mkl {S : z_SH} {I : z_MI} {J : z_MJ} {P : z_MP} {n : Nat × Nat} {t m : Nat} : q_mk (z_h S I J P n) t (List.replicate m (.long 0)) = z_h (z_us S n.1 (t, List.replicate m 1)) (z_ri I n.1 fun _ => z_n 0) (z_rj J n.1 fun _ => 0) (z_rp P n.1 fun _ => none) (n.1 + 1, n.2 + m) := by
  have h := z_mk' (S := S) (I := I) (J := J) (P := P) (n := n) (t := t) (vs := List.replicate m (.long 0)) (List.replicate m 1) (f := fun _ => z_n 0) (g := fun _ => 0) (p := fun _ => none) (by rw [List.length_replicate, List.length_replicate]) (by
    intro i k hk
    rw [List.getElem?_replicate] at hk ⊢
    split at hk
    · rename_i h1
      rw [if_pos h1]; cases hk; rfl
    · cases hk)
  rw [List.length_replicate] at h
  exact h
theorem z_mkr {S : z_SH} {I : z_MI} {J : z_MJ} {P : z_MP} {n : Nat × Nat} {t m : Nat} : q_mk (z_h S I J P n) t (List.replicate m .null) = z_h (z_us S n.1 (t, List.replicate m 2)) (z_ri I n.1 fun _ => z_n 0) (z_rj J n.1 fun _ => 0) (z_rp P n.1 fun _ => none) (n.1 + 1, n.2 + m) := by
  have h := z_mk' (S := S) (I := I) (J := J) (P := P) (n := n) (t := t) (vs := List.replicate m .null) (List.replicate m 2) (f := fun _ => z_n 0) (g := fun _ => 0) (p := fun _ => none) (by rw [List.length_replicate, List.length_replicate]) (by
    intro i k hk
    rw [List.getElem?_replicate] at hk ⊢
    split at hk
    · rename_i h1
      rw [if_pos h1]; cases hk; rfl
    · cases hk)
  rw [List.length_replicate] at h
  exact h
theorem z_rpl {α : Type} {a : α} {n i : Nat} (h : i < n) : (List.replicate n a)[i]? = some a := by rw [List.getElem?_replicate, if_pos h]
theorem z_ltT {a b : Nat} (h : a < b) : (a < b) = True := eq_true h
theorem z_ltF {a b : Nat} (h : ¬ a < b) : (a < b) = False := eq_false h
theorem z_leT {a b : Nat} (h : a ≤ b) : (a ≤ b) = True := eq_true h
theorem z_leF {a b : Nat} (h : ¬ a ≤ b) : (a ≤ b) = False := eq_false h
theorem z_eqF {a b : Nat} (h : ¬ a = b) : (a = b) = False := eq_false h
theorem z_oL {s : Int32} {N : Nat} (h : z_o s N) : (s < z_n 0) = True ∨ ((s < z_n 0) = False ∧ (z_n N < s) = True) := by
  by_cases h1 : s < z_n 0
  · exact Or.inl (eq_true h1)
  · exact Or.inr ⟨eq_false h1, eq_true (h.resolve_left h1)⟩
/-- loops -/
theorem z_loop {T : Type} (F : Nat → Nat → Option T) (N : Nat) {r : Option T} (step : ∀ m i, i < N → F (m + 1) i = F m (i + 1)) (stop : ∀ m, F (m + 1) N = r) : ∀ (m i : Nat), i ≤ N → N - i < m → F m i = r
  | 0, i, _, h => absurd h (Nat.not_lt_zero _)
  | m + 1, i, hi, h => by
    by_cases e : i = N
    · subst e; exact stop m
    · rw [step m i (by omega)]
      exact z_loop F N step stop m (i + 1) (by omega) (by omega)
theorem z_run {T : Type} (F : Nat → Nat → Option T) (N : Nat) {r : Option T} (hN : N < 1000000) (step : ∀ m i, i < N → F (m + 1) i = F m (i + 1)) (stop : ∀ m, F (m + 1) N = r) : F q_FU 0 = r := z_loop F N step stop q_FU 0 (Nat.zero_le _) (by rw [z_FU]; omega)
def z_sum : Nat → (Nat → Nat) → Nat
  | 0, _ => 0
  | k + 1, f => z_sum k f + f k
theorem z_sum_s (k : Nat) (f : Nat → Nat) : z_sum (k + 1) f = z_sum k f + f k := rfl
theorem z_sum_0 (f : Nat → Nat) : z_sum 0 f = 0 := rfl
theorem z_sum_le (f : Nat → Nat) (b : Nat) : ∀ k, (∀ i, i < k → f i ≤ b) → z_sum k f ≤ k * b
  | 0, _ => by simp [z_sum]
  | k + 1, h => by
    have h1 := z_sum_le f b k (fun i hi => h i (by omega))
    have h2 := h k (by omega)
    rw [z_sum, Nat.succ_mul]; omega
theorem z_sum_eq {f g : Nat → Nat} : ∀ {k : Nat}, (∀ i, i < k → f i = g i) → z_sum k f = z_sum k g
  | 0, _ => rfl
  | k + 1, h => by rw [z_sum, z_sum, z_sum_eq (fun i hi => h i (by omega)), h k (by omega)]
theorem z_sum_add (f g : Nat → Nat) : ∀ k, z_sum k (fun i => f i + g i) = z_sum k f + z_sum k g
  | 0 => rfl
  | k + 1 => by rw [z_sum, z_sum, z_sum, z_sum_add f g k]; omega
/-- the first that is so, else the bound -/
def z_ff (p : Nat → Bool) : Nat → Nat
  | 0 => 0
  | k + 1 => if z_ff p k < k then z_ff p k else if p k then k else k + 1
theorem z_ff_le (p : Nat → Bool) : ∀ N, z_ff p N ≤ N
  | 0 => Nat.le_refl _
  | k + 1 => by
    have := z_ff_le p k
    rw [z_ff]; split
    · omega
    · split <;> omega
theorem z_ff_no (p : Nat → Bool) : ∀ N i, i < z_ff p N → p i = false
  | 0, i, h => absurd h (Nat.not_lt_zero _)
  | k + 1, i, h => by
    have hk := z_ff_le p k
    rw [z_ff] at h
    split at h
    · exact z_ff_no p k i h
    · rename_i h1
      have e : z_ff p k = k := by omega
      split at h
      · exact z_ff_no p k i (by omega)
      · rename_i h2
        by_cases hi : i = k
        · subst hi; simpa using h2
        · exact z_ff_no p k i (by omega)
theorem z_ff_is (p : Nat → Bool) : ∀ N, z_ff p N < N → p (z_ff p N) = true
  | 0, h => absurd h (Nat.not_lt_zero _)
  | k + 1, h => by
    have hk := z_ff_le p k
    rw [z_ff] at h ⊢
    by_cases h1 : z_ff p k < k
    · rw [if_pos h1]; exact z_ff_is p k h1
    · rw [if_neg h1] at h ⊢
      by_cases h2 : p k = true
      · rw [if_pos h2]; exact h2
      · rw [if_neg h2] at h; omega
theorem z_ff_eq {p q : Nat → Bool} : ∀ {N : Nat}, (∀ i, i < N → p i = q i) → z_ff p N = z_ff q N
  | 0, _ => rfl
  | k + 1, h => by rw [z_ff, z_ff, z_ff_eq (fun i hi => h i (by omega)), h k (by omega)]
theorem z_loopI {T X : Type} (F : Nat → Nat → X → Option T) (N : Nat) (Q : Nat → X → Prop) (post : Option T → Prop) (step : ∀ m i x, i < N → Q i x → ∃ x', Q (i + 1) x' ∧ F (m + 1) i x = F m (i + 1) x') (stop : ∀ m x, Q N x → post (F (m + 1) N x)) : ∀ (m i : Nat) (x : X), i ≤ N → N - i < m → Q i x → post (F m i x)
  | 0, _, _, _, h, _ => absurd h (Nat.not_lt_zero _)
  | m + 1, i, x, hi, h, q => by
    by_cases e : i = N
    · subst e; exact stop m x q
    · obtain ⟨x', q', e'⟩ := step m i x (by omega) q
      rw [e']
      exact z_loopI F N Q post step stop m (i + 1) x' (by omega) (by omega) q'
theorem z_runI {T X : Type} (F : Nat → Nat → X → Option T) (N : Nat) (Q : Nat → X → Prop) (post : Option T → Prop) (hN : N < 1000000) (step : ∀ m i x, i < N → Q i x → ∃ x', Q (i + 1) x' ∧ F (m + 1) i x = F m (i + 1) x') (stop : ∀ m x, Q N x → post (F (m + 1) N x)) {x : X} (q : Q 0 x) : post (F q_FU 0 x) := z_loopI F N Q post step stop q_FU 0 x (Nat.zero_le _) (by rw [z_FU]; omega) q
/-- rows as they are written from the left -/
def z_it {A : Type} (f g : Nat → A) (i : Nat) : Nat → A := fun j => if j < i then f j else g j
theorem z_it_s {A : Type} (f g : Nat → A) {i j : Nat} (h : j < i) : z_it f g i j = f j := if_pos h
theorem z_it_n {A : Type} (f g : Nat → A) {i j : Nat} (h : ¬ j < i) : z_it f g i j = g j := if_neg h
theorem z_ri_s (I : z_MI) (a : Nat) (f : Nat → Int32) (j : Nat) : z_ri I a f a j = f j := if_pos rfl
theorem z_ri_a {I : z_MI} {a b : Nat} {f : Nat → Int32} (h : b ≠ a) : z_ri I a f b = I b := by funext j; exact if_neg h
theorem z_rj_s (I : z_MJ) (a : Nat) (f : Nat → Int64) (j : Nat) : z_rj I a f a j = f j := if_pos rfl
theorem z_rj_a {I : z_MJ} {a b : Nat} {f : Nat → Int64} (h : b ≠ a) : z_rj I a f b = I b := by funext j; exact if_neg h
theorem z_rp_s (I : z_MP) (a : Nat) (f : Nat → Option Nat) (j : Nat) : z_rp I a f a j = f j := if_pos rfl
theorem z_rp_a {I : z_MP} {a b : Nat} {f : Nat → Option Nat} (h : b ≠ a) : z_rp I a f b = I b := by funext j; exact if_neg h
theorem z_us_s (S : z_SH) (a : Nat) (c : Nat × List Nat) : z_us S a c a = some c := if_pos rfl
theorem z_us_a {S : z_SH} {a b : Nat} {c : Nat × List Nat} (h : b ≠ a) : z_us S a c b = S b := if_neg h
theorem z_up_r {I : z_MI} {a b i : Nat} {v : Int32} (h : b ≠ a) : z_up I a i v b = I b := by funext j; exact z_up_a h
theorem z_uj_r {I : z_MJ} {a b i : Nat} {v : Int64} (h : b ≠ a) : z_uj I a i v b = I b := by funext j; exact z_uj_a h
theorem z_pu_r {I : z_MP} {a b i : Nat} {v : Option Nat} (h : b ≠ a) : z_pu I a i v b = I b := by funext j; exact z_pu_a h
theorem z_up_it (I : z_MI) (a i : Nat) (f g : Nat → Int32) : z_up (z_ri I a (z_it f g i)) a i (f i) = z_ri I a (z_it f g (i + 1)) := by
  funext b j
  unfold z_up z_ri z_it
  by_cases hb : b = a
  · by_cases hj : j = i
    · subst hb; subst hj; simp
    · rw [if_neg (fun e => hj e.2), if_pos hb, if_pos hb]
      by_cases h : j < i
      · rw [if_pos h, if_pos (by omega)]
      · rw [if_neg h, if_neg (by omega)]
  · rw [if_neg (fun e => hb e.1), if_neg hb, if_neg hb]
theorem z_it_0 (I : z_MI) (a : Nat) (f : Nat → Int32) : z_ri I a (z_it f (I a) 0) = I := by
  funext b j
  unfold z_ri z_it
  by_cases hb : b = a
  · subst hb; simp
  · rw [if_neg hb]
theorem z_up_same (I : z_MI) (a i : Nat) : z_up I a i (I a i) = I := by
  funext b j
  unfold z_up
  by_cases h : b = a ∧ j = i
  · rw [if_pos h, h.1, h.2]
  · rw [if_neg h]

def z_tl : List (Nat × List Nat) := [(20, List.replicate 8 0), (13, [2, 0]), (13, [2, 0]), (13, [2, 0]), (24, List.replicate 61 0), (24, List.replicate 97 0), (24, List.replicate 8 0), (0, [2, 2, 2, 2, 2, 2, 2, 2, 2, 2, 2, 2, 2]), (1, [2, 0, 0, 0, 0, 1]), (23, List.replicate 1000 0), (21, List.replicate 10 1), (21, List.replicate 18 1), (2, [2, 2, 2, 2, 2, 2]), (22, List.replicate 24 0), (20, List.replicate 24 0), (20, List.replicate 24 0), (20, List.replicate 24 0), (25, List.replicate 24 2), (20, List.replicate 6 0), (26, List.replicate 4 2), (22, List.replicate 4 0), (3, [0, 2, 2, 2, 2]), (20, List.replicate 24 0), (20, List.replicate 288 0), (20, List.replicate 288 0), (20, List.replicate 96 0), (4, [2, 2, 0]), (28, List.replicate 4 2), (20, List.replicate 17 0), (20, List.replicate 17 0), (20, List.replicate 17 0), (20, List.replicate 17 0), (20, List.replicate 4 0), (27, List.replicate 4 2), (20, List.replicate 13 0), (5, [0, 0, 1, 0, 2, 2, 2, 2]), (20, List.replicate 6 0), (22, List.replicate 6 0), (22, List.replicate 6 0), (22, List.replicate 6 0), (20, List.replicate 225 0), (20, List.replicate 225 0), (2, [2, 2, 2, 2, 2, 2]), (22, List.replicate 24 0), (20, List.replicate 24 0), (20, List.replicate 24 0), (20, List.replicate 24 0), (25, List.replicate 24 2), (20, List.replicate 6 0), (2, [2, 2, 2, 2, 2, 2]), (22, List.replicate 24 0), (20, List.replicate 24 0), (20, List.replicate 24 0), (20, List.replicate 24 0), (25, List.replicate 24 2), (20, List.replicate 6 0), (2, [2, 2, 2, 2, 2, 2]), (22, List.replicate 24 0), (20, List.replicate 24 0), (20, List.replicate 24 0), (20, List.replicate 24 0), (25, List.replicate 24 2), (20, List.replicate 6 0), (2, [2, 2, 2, 2, 2, 2]), (22, List.replicate 24 0), (20, List.replicate 24 0), (20, List.replicate 24 0), (20, List.replicate 24 0), (25, List.replicate 24 2), (20, List.replicate 6 0), (6, [2, 0, 0, 2]), (20, List.replicate 0 0), (20, List.replicate 32 0), (6, [2, 0, 0, 2]), (20, List.replicate 0 0), (20, List.replicate 32 0), (6, [2, 0, 0, 2]), (20, List.replicate 0 0), (20, List.replicate 32 0), (6, [2, 0, 0, 2]), (20, List.replicate 0 0), (20, List.replicate 32 0), (12, [0, 2, 2, 2, 2, 2, 2, 2, 2, 2, 2, 2, 2, 2, 2, 2, 0, 2, 0, 0, 0, 0, 1, 0, 0, 1, 1, 2, 0, 0, 2, 2, 0, 2, 1, 2, 2, 2, 2, 0, 2, 2, 2, 2, 2, 2, 2, 2, 2, 2, 2, 2, 1, 0, 0, 2, 2, 2, 0, 2, 2, 2, 2, 2, 2, 2]), (20, List.replicate 6 0), (22, List.replicate 24 0), (22, List.replicate 24 0), (20, List.replicate 24 0), (20, List.replicate 24 0), (20, List.replicate 24 0), (20, List.replicate 25 0), (20, List.replicate 300 0), (20, List.replicate 300 0), (20, List.replicate 300 0), (20, List.replicate 300 0), (20, List.replicate 300 0), (21, List.replicate 300 1), (21, List.replicate 300 1), (21, List.replicate 300 1), (20, List.replicate 1000 0), (20, List.replicate 24 0), (20, List.replicate 68 0), (20, List.replicate 17 0), (20, List.replicate 4 0), (20, List.replicate 5 0), (20, List.replicate 30 0), (20, List.replicate 30 0), (20, List.replicate 5000 0), (20, List.replicate 7 0), (22, List.replicate 7 0), (20, List.replicate 7 0), (20, List.replicate 7 0), (20, List.replicate 7 0), (20, List.replicate 7 0), (20, List.replicate 7 0), (20, List.replicate 7 0), (20, List.replicate 7 0), (20, List.replicate 7 0), (20, List.replicate 7 0), (20, List.replicate 20 0), (20, List.replicate 6 0), (22, List.replicate 6 0), (22, List.replicate 6 0), (20, List.replicate 225 0), (20, List.replicate 225 0), (22, List.replicate 4 0), (20, List.replicate 24 0), (20, List.replicate 576 0), (20, List.replicate 5760 0), (21, List.replicate 3456 1)]
def z_tab (a : Nat) : Option (Nat × List Nat) := match a with
  | 0 => none
  | a + 1 => if 70 ≤ a ∧ a < 82 then none else z_tl[a]?
def z_St (S : z_SH) : Prop := ∀ a c, z_tab a = some c → S a = some c
def z_pl : List (Nat × Nat × Nat) := [(2, 0, 5), (3, 0, 6), (4, 0, 7), (8, 0, 9), (8, 1, 11), (8, 2, 12), (8, 3, 13), (8, 4, 20), (8, 5, 21), (8, 6, 22), (8, 7, 27), (8, 8, 34), (8, 9, 35), (8, 10, 36), (8, 11, 41), (8, 12, 42), (9, 0, 10), (13, 0, 14), (13, 1, 15), (13, 2, 16), (13, 3, 17), (13, 4, 18), (13, 5, 19), (20, 0, 43), (20, 1, 50), (20, 2, 57), (20, 3, 64), (22, 1, 23), (22, 2, 24), (22, 3, 25), (22, 4, 26), (27, 0, 28), (27, 1, 33), (28, 0, 29), (28, 1, 30), (28, 2, 31), (28, 3, 32), (36, 4, 37), (36, 5, 38), (36, 6, 39), (36, 7, 40), (43, 0, 44), (43, 1, 45), (43, 2, 46), (43, 3, 47), (43, 4, 48), (43, 5, 49), (50, 0, 51), (50, 1, 52), (50, 2, 53), (50, 3, 54), (50, 4, 55), (50, 5, 56), (57, 0, 58), (57, 1, 59), (57, 2, 60), (57, 3, 61), (57, 4, 62), (57, 5, 63), (64, 0, 65), (64, 1, 66), (64, 2, 67), (64, 3, 68), (64, 4, 69), (64, 5, 70), (83, 1, 84), (83, 2, 85), (83, 3, 86), (83, 4, 87), (83, 5, 88), (83, 6, 89), (83, 7, 90), (83, 8, 91), (83, 9, 92), (83, 10, 93), (83, 11, 94), (83, 12, 95), (83, 13, 96), (83, 14, 97), (83, 15, 98), (83, 17, 99), (83, 27, 100), (83, 30, 101), (83, 31, 102), (83, 33, 103), (83, 35, 104), (83, 36, 105), (83, 37, 106), (83, 38, 107), (83, 40, 108), (83, 41, 109), (83, 42, 110), (83, 43, 111), (83, 44, 112), (83, 45, 113), (83, 46, 114), (83, 47, 115), (83, 48, 116), (83, 49, 117), (83, 50, 118), (83, 51, 119), (83, 55, 120), (83, 56, 121), (83, 57, 122), (83, 59, 123), (83, 60, 124), (83, 61, 125), (83, 62, 126), (83, 63, 127), (83, 64, 128), (83, 65, 129)]
def z_Pt (P : z_MP) : Prop := ∀ q ∈ z_pl, P q.1 q.2.1 = some q.2.2
theorem s_1 {S : z_SH} (h : z_St S) : S 1 = some (20, List.replicate 8 0) := h 1 _ rfl
theorem s_2 {S : z_SH} (h : z_St S) : S 2 = some (13, [2, 0]) := h 2 _ rfl
theorem s_3 {S : z_SH} (h : z_St S) : S 3 = some (13, [2, 0]) := h 3 _ rfl
theorem s_4 {S : z_SH} (h : z_St S) : S 4 = some (13, [2, 0]) := h 4 _ rfl
theorem s_5 {S : z_SH} (h : z_St S) : S 5 = some (24, List.replicate 61 0) := h 5 _ rfl
theorem s_6 {S : z_SH} (h : z_St S) : S 6 = some (24, List.replicate 97 0) := h 6 _ rfl
theorem s_7 {S : z_SH} (h : z_St S) : S 7 = some (24, List.replicate 8 0) := h 7 _ rfl
theorem s_8 {S : z_SH} (h : z_St S) : S 8 = some (0, [2, 2, 2, 2, 2, 2, 2, 2, 2, 2, 2, 2, 2]) := h 8 _ rfl
theorem s_9 {S : z_SH} (h : z_St S) : S 9 = some (1, [2, 0, 0, 0, 0, 1]) := h 9 _ rfl
theorem s_10 {S : z_SH} (h : z_St S) : S 10 = some (23, List.replicate 1000 0) := h 10 _ rfl
theorem s_11 {S : z_SH} (h : z_St S) : S 11 = some (21, List.replicate 10 1) := h 11 _ rfl
theorem s_12 {S : z_SH} (h : z_St S) : S 12 = some (21, List.replicate 18 1) := h 12 _ rfl
theorem s_13 {S : z_SH} (h : z_St S) : S 13 = some (2, [2, 2, 2, 2, 2, 2]) := h 13 _ rfl
theorem s_14 {S : z_SH} (h : z_St S) : S 14 = some (22, List.replicate 24 0) := h 14 _ rfl
theorem s_15 {S : z_SH} (h : z_St S) : S 15 = some (20, List.replicate 24 0) := h 15 _ rfl
theorem s_16 {S : z_SH} (h : z_St S) : S 16 = some (20, List.replicate 24 0) := h 16 _ rfl
theorem s_17 {S : z_SH} (h : z_St S) : S 17 = some (20, List.replicate 24 0) := h 17 _ rfl
theorem s_18 {S : z_SH} (h : z_St S) : S 18 = some (25, List.replicate 24 2) := h 18 _ rfl
theorem s_19 {S : z_SH} (h : z_St S) : S 19 = some (20, List.replicate 6 0) := h 19 _ rfl
theorem s_20 {S : z_SH} (h : z_St S) : S 20 = some (26, List.replicate 4 2) := h 20 _ rfl
theorem s_21 {S : z_SH} (h : z_St S) : S 21 = some (22, List.replicate 4 0) := h 21 _ rfl
theorem s_22 {S : z_SH} (h : z_St S) : S 22 = some (3, [0, 2, 2, 2, 2]) := h 22 _ rfl
theorem s_23 {S : z_SH} (h : z_St S) : S 23 = some (20, List.replicate 24 0) := h 23 _ rfl
theorem s_24 {S : z_SH} (h : z_St S) : S 24 = some (20, List.replicate 288 0) := h 24 _ rfl
theorem s_25 {S : z_SH} (h : z_St S) : S 25 = some (20, List.replicate 288 0) := h 25 _ rfl
theorem s_26 {S : z_SH} (h : z_St S) : S 26 = some (20, List.replicate 96 0) := h 26 _ rfl
theorem s_27 {S : z_SH} (h : z_St S) : S 27 = some (4, [2, 2, 0]) := h 27 _ rfl
theorem s_28 {S : z_SH} (h : z_St S) : S 28 = some (28, List.replicate 4 2) := h 28 _ rfl
theorem s_29 {S : z_SH} (h : z_St S) : S 29 = some (20, List.replicate 17 0) := h 29 _ rfl
theorem s_30 {S : z_SH} (h : z_St S) : S 30 = some (20, List.replicate 17 0) := h 30 _ rfl
theorem s_31 {S : z_SH} (h : z_St S) : S 31 = some (20, List.replicate 17 0) := h 31 _ rfl
theorem s_32 {S : z_SH} (h : z_St S) : S 32 = some (20, List.replicate 17 0) := h 32 _ rfl
theorem s_33 {S : z_SH} (h : z_St S) : S 33 = some (20, List.replicate 4 0) := h 33 _ rfl
theorem s_34 {S : z_SH} (h : z_St S) : S 34 = some (27, List.replicate 4 2) := h 34 _ rfl
theorem s_35 {S : z_SH} (h : z_St S) : S 35 = some (20, List.replicate 13 0) := h 35 _ rfl
theorem s_36 {S : z_SH} (h : z_St S) : S 36 = some (5, [0, 0, 1, 0, 2, 2, 2, 2]) := h 36 _ rfl
theorem s_37 {S : z_SH} (h : z_St S) : S 37 = some (20, List.replicate 6 0) := h 37 _ rfl
theorem s_38 {S : z_SH} (h : z_St S) : S 38 = some (22, List.replicate 6 0) := h 38 _ rfl
theorem s_39 {S : z_SH} (h : z_St S) : S 39 = some (22, List.replicate 6 0) := h 39 _ rfl
theorem s_40 {S : z_SH} (h : z_St S) : S 40 = some (22, List.replicate 6 0) := h 40 _ rfl
theorem s_41 {S : z_SH} (h : z_St S) : S 41 = some (20, List.replicate 225 0) := h 41 _ rfl
theorem s_42 {S : z_SH} (h : z_St S) : S 42 = some (20, List.replicate 225 0) := h 42 _ rfl
theorem s_43 {S : z_SH} (h : z_St S) : S 43 = some (2, [2, 2, 2, 2, 2, 2]) := h 43 _ rfl
theorem s_44 {S : z_SH} (h : z_St S) : S 44 = some (22, List.replicate 24 0) := h 44 _ rfl
theorem s_45 {S : z_SH} (h : z_St S) : S 45 = some (20, List.replicate 24 0) := h 45 _ rfl
theorem s_46 {S : z_SH} (h : z_St S) : S 46 = some (20, List.replicate 24 0) := h 46 _ rfl
theorem s_47 {S : z_SH} (h : z_St S) : S 47 = some (20, List.replicate 24 0) := h 47 _ rfl
theorem s_48 {S : z_SH} (h : z_St S) : S 48 = some (25, List.replicate 24 2) := h 48 _ rfl
theorem s_49 {S : z_SH} (h : z_St S) : S 49 = some (20, List.replicate 6 0) := h 49 _ rfl
theorem s_50 {S : z_SH} (h : z_St S) : S 50 = some (2, [2, 2, 2, 2, 2, 2]) := h 50 _ rfl
theorem s_51 {S : z_SH} (h : z_St S) : S 51 = some (22, List.replicate 24 0) := h 51 _ rfl
theorem s_52 {S : z_SH} (h : z_St S) : S 52 = some (20, List.replicate 24 0) := h 52 _ rfl
theorem s_53 {S : z_SH} (h : z_St S) : S 53 = some (20, List.replicate 24 0) := h 53 _ rfl
theorem s_54 {S : z_SH} (h : z_St S) : S 54 = some (20, List.replicate 24 0) := h 54 _ rfl
theorem s_55 {S : z_SH} (h : z_St S) : S 55 = some (25, List.replicate 24 2) := h 55 _ rfl
theorem s_56 {S : z_SH} (h : z_St S) : S 56 = some (20, List.replicate 6 0) := h 56 _ rfl
theorem s_57 {S : z_SH} (h : z_St S) : S 57 = some (2, [2, 2, 2, 2, 2, 2]) := h 57 _ rfl
theorem s_58 {S : z_SH} (h : z_St S) : S 58 = some (22, List.replicate 24 0) := h 58 _ rfl
theorem s_59 {S : z_SH} (h : z_St S) : S 59 = some (20, List.replicate 24 0) := h 59 _ rfl
theorem s_60 {S : z_SH} (h : z_St S) : S 60 = some (20, List.replicate 24 0) := h 60 _ rfl
theorem s_61 {S : z_SH} (h : z_St S) : S 61 = some (20, List.replicate 24 0) := h 61 _ rfl
theorem s_62 {S : z_SH} (h : z_St S) : S 62 = some (25, List.replicate 24 2) := h 62 _ rfl
theorem s_63 {S : z_SH} (h : z_St S) : S 63 = some (20, List.replicate 6 0) := h 63 _ rfl
theorem s_64 {S : z_SH} (h : z_St S) : S 64 = some (2, [2, 2, 2, 2, 2, 2]) := h 64 _ rfl
theorem s_65 {S : z_SH} (h : z_St S) : S 65 = some (22, List.replicate 24 0) := h 65 _ rfl
theorem s_66 {S : z_SH} (h : z_St S) : S 66 = some (20, List.replicate 24 0) := h 66 _ rfl
theorem s_67 {S : z_SH} (h : z_St S) : S 67 = some (20, List.replicate 24 0) := h 67 _ rfl
theorem s_68 {S : z_SH} (h : z_St S) : S 68 = some (20, List.replicate 24 0) := h 68 _ rfl
theorem s_69 {S : z_SH} (h : z_St S) : S 69 = some (25, List.replicate 24 2) := h 69 _ rfl
theorem s_70 {S : z_SH} (h : z_St S) : S 70 = some (20, List.replicate 6 0) := h 70 _ rfl
theorem s_83 {S : z_SH} (h : z_St S) : S 83 = some (12, [0, 2, 2, 2, 2, 2, 2, 2, 2, 2, 2, 2, 2, 2, 2, 2, 0, 2, 0, 0, 0, 0, 1, 0, 0, 1, 1, 2, 0, 0, 2, 2, 0, 2, 1, 2, 2, 2, 2, 0, 2, 2, 2, 2, 2, 2, 2, 2, 2, 2, 2, 2, 1, 0, 0, 2, 2, 2, 0, 2, 2, 2, 2, 2, 2, 2]) := h 83 _ rfl
theorem s_84 {S : z_SH} (h : z_St S) : S 84 = some (20, List.replicate 6 0) := h 84 _ rfl
theorem s_85 {S : z_SH} (h : z_St S) : S 85 = some (22, List.replicate 24 0) := h 85 _ rfl
theorem s_86 {S : z_SH} (h : z_St S) : S 86 = some (22, List.replicate 24 0) := h 86 _ rfl
theorem s_87 {S : z_SH} (h : z_St S) : S 87 = some (20, List.replicate 24 0) := h 87 _ rfl
theorem s_88 {S : z_SH} (h : z_St S) : S 88 = some (20, List.replicate 24 0) := h 88 _ rfl
theorem s_89 {S : z_SH} (h : z_St S) : S 89 = some (20, List.replicate 24 0) := h 89 _ rfl
theorem s_90 {S : z_SH} (h : z_St S) : S 90 = some (20, List.replicate 25 0) := h 90 _ rfl
theorem s_91 {S : z_SH} (h : z_St S) : S 91 = some (20, List.replicate 300 0) := h 91 _ rfl
theorem s_92 {S : z_SH} (h : z_St S) : S 92 = some (20, List.replicate 300 0) := h 92 _ rfl
theorem s_93 {S : z_SH} (h : z_St S) : S 93 = some (20, List.replicate 300 0) := h 93 _ rfl
theorem s_94 {S : z_SH} (h : z_St S) : S 94 = some (20, List.replicate 300 0) := h 94 _ rfl
theorem s_95 {S : z_SH} (h : z_St S) : S 95 = some (20, List.replicate 300 0) := h 95 _ rfl
theorem s_96 {S : z_SH} (h : z_St S) : S 96 = some (21, List.replicate 300 1) := h 96 _ rfl
theorem s_97 {S : z_SH} (h : z_St S) : S 97 = some (21, List.replicate 300 1) := h 97 _ rfl
theorem s_98 {S : z_SH} (h : z_St S) : S 98 = some (21, List.replicate 300 1) := h 98 _ rfl
theorem s_99 {S : z_SH} (h : z_St S) : S 99 = some (20, List.replicate 1000 0) := h 99 _ rfl
theorem s_100 {S : z_SH} (h : z_St S) : S 100 = some (20, List.replicate 24 0) := h 100 _ rfl
theorem s_101 {S : z_SH} (h : z_St S) : S 101 = some (20, List.replicate 68 0) := h 101 _ rfl
theorem s_102 {S : z_SH} (h : z_St S) : S 102 = some (20, List.replicate 17 0) := h 102 _ rfl
theorem s_103 {S : z_SH} (h : z_St S) : S 103 = some (20, List.replicate 4 0) := h 103 _ rfl
theorem s_104 {S : z_SH} (h : z_St S) : S 104 = some (20, List.replicate 5 0) := h 104 _ rfl
theorem s_105 {S : z_SH} (h : z_St S) : S 105 = some (20, List.replicate 30 0) := h 105 _ rfl
theorem s_106 {S : z_SH} (h : z_St S) : S 106 = some (20, List.replicate 30 0) := h 106 _ rfl
theorem s_107 {S : z_SH} (h : z_St S) : S 107 = some (20, List.replicate 5000 0) := h 107 _ rfl
theorem s_108 {S : z_SH} (h : z_St S) : S 108 = some (20, List.replicate 7 0) := h 108 _ rfl
theorem s_109 {S : z_SH} (h : z_St S) : S 109 = some (22, List.replicate 7 0) := h 109 _ rfl
theorem s_110 {S : z_SH} (h : z_St S) : S 110 = some (20, List.replicate 7 0) := h 110 _ rfl
theorem s_111 {S : z_SH} (h : z_St S) : S 111 = some (20, List.replicate 7 0) := h 111 _ rfl
theorem s_112 {S : z_SH} (h : z_St S) : S 112 = some (20, List.replicate 7 0) := h 112 _ rfl
theorem s_113 {S : z_SH} (h : z_St S) : S 113 = some (20, List.replicate 7 0) := h 113 _ rfl
theorem s_114 {S : z_SH} (h : z_St S) : S 114 = some (20, List.replicate 7 0) := h 114 _ rfl
theorem s_115 {S : z_SH} (h : z_St S) : S 115 = some (20, List.replicate 7 0) := h 115 _ rfl
theorem s_116 {S : z_SH} (h : z_St S) : S 116 = some (20, List.replicate 7 0) := h 116 _ rfl
theorem s_117 {S : z_SH} (h : z_St S) : S 117 = some (20, List.replicate 7 0) := h 117 _ rfl
theorem s_118 {S : z_SH} (h : z_St S) : S 118 = some (20, List.replicate 7 0) := h 118 _ rfl
theorem s_119 {S : z_SH} (h : z_St S) : S 119 = some (20, List.replicate 20 0) := h 119 _ rfl
theorem s_120 {S : z_SH} (h : z_St S) : S 120 = some (20, List.replicate 6 0) := h 120 _ rfl
theorem s_121 {S : z_SH} (h : z_St S) : S 121 = some (22, List.replicate 6 0) := h 121 _ rfl
theorem s_122 {S : z_SH} (h : z_St S) : S 122 = some (22, List.replicate 6 0) := h 122 _ rfl
theorem s_123 {S : z_SH} (h : z_St S) : S 123 = some (20, List.replicate 225 0) := h 123 _ rfl
theorem s_124 {S : z_SH} (h : z_St S) : S 124 = some (20, List.replicate 225 0) := h 124 _ rfl
theorem s_125 {S : z_SH} (h : z_St S) : S 125 = some (22, List.replicate 4 0) := h 125 _ rfl
theorem s_126 {S : z_SH} (h : z_St S) : S 126 = some (20, List.replicate 24 0) := h 126 _ rfl
theorem s_127 {S : z_SH} (h : z_St S) : S 127 = some (20, List.replicate 576 0) := h 127 _ rfl
theorem s_128 {S : z_SH} (h : z_St S) : S 128 = some (20, List.replicate 5760 0) := h 128 _ rfl
theorem s_129 {S : z_SH} (h : z_St S) : S 129 = some (21, List.replicate 3456 1) := h 129 _ rfl
theorem p_2_0 {P : z_MP} (h : z_Pt P) : P 2 0 = some 5 := h (2, 0, 5) (List.mem_of_getElem? (i := 0) rfl)
theorem p_3_0 {P : z_MP} (h : z_Pt P) : P 3 0 = some 6 := h (3, 0, 6) (List.mem_of_getElem? (i := 1) rfl)
theorem p_4_0 {P : z_MP} (h : z_Pt P) : P 4 0 = some 7 := h (4, 0, 7) (List.mem_of_getElem? (i := 2) rfl)
theorem p_8_0 {P : z_MP} (h : z_Pt P) : P 8 0 = some 9 := h (8, 0, 9) (List.mem_of_getElem? (i := 3) rfl)
theorem p_8_1 {P : z_MP} (h : z_Pt P) : P 8 1 = some 11 := h (8, 1, 11) (List.mem_of_getElem? (i := 4) rfl)
theorem p_8_2 {P : z_MP} (h : z_Pt P) : P 8 2 = some 12 := h (8, 2, 12) (List.mem_of_getElem? (i := 5) rfl)
theorem p_8_3 {P : z_MP} (h : z_Pt P) : P 8 3 = some 13 := h (8, 3, 13) (List.mem_of_getElem? (i := 6) rfl)
theorem p_8_4 {P : z_MP} (h : z_Pt P) : P 8 4 = some 20 := h (8, 4, 20) (List.mem_of_getElem? (i := 7) rfl)
theorem p_8_5 {P : z_MP} (h : z_Pt P) : P 8 5 = some 21 := h (8, 5, 21) (List.mem_of_getElem? (i := 8) rfl)
theorem p_8_6 {P : z_MP} (h : z_Pt P) : P 8 6 = some 22 := h (8, 6, 22) (List.mem_of_getElem? (i := 9) rfl)
theorem p_8_7 {P : z_MP} (h : z_Pt P) : P 8 7 = some 27 := h (8, 7, 27) (List.mem_of_getElem? (i := 10) rfl)
theorem p_8_8 {P : z_MP} (h : z_Pt P) : P 8 8 = some 34 := h (8, 8, 34) (List.mem_of_getElem? (i := 11) rfl)
theorem p_8_9 {P : z_MP} (h : z_Pt P) : P 8 9 = some 35 := h (8, 9, 35) (List.mem_of_getElem? (i := 12) rfl)
theorem p_8_10 {P : z_MP} (h : z_Pt P) : P 8 10 = some 36 := h (8, 10, 36) (List.mem_of_getElem? (i := 13) rfl)
theorem p_8_11 {P : z_MP} (h : z_Pt P) : P 8 11 = some 41 := h (8, 11, 41) (List.mem_of_getElem? (i := 14) rfl)
theorem p_8_12 {P : z_MP} (h : z_Pt P) : P 8 12 = some 42 := h (8, 12, 42) (List.mem_of_getElem? (i := 15) rfl)
theorem p_9_0 {P : z_MP} (h : z_Pt P) : P 9 0 = some 10 := h (9, 0, 10) (List.mem_of_getElem? (i := 16) rfl)
theorem p_13_0 {P : z_MP} (h : z_Pt P) : P 13 0 = some 14 := h (13, 0, 14) (List.mem_of_getElem? (i := 17) rfl)
theorem p_13_1 {P : z_MP} (h : z_Pt P) : P 13 1 = some 15 := h (13, 1, 15) (List.mem_of_getElem? (i := 18) rfl)
theorem p_13_2 {P : z_MP} (h : z_Pt P) : P 13 2 = some 16 := h (13, 2, 16) (List.mem_of_getElem? (i := 19) rfl)
theorem p_13_3 {P : z_MP} (h : z_Pt P) : P 13 3 = some 17 := h (13, 3, 17) (List.mem_of_getElem? (i := 20) rfl)
theorem p_13_4 {P : z_MP} (h : z_Pt P) : P 13 4 = some 18 := h (13, 4, 18) (List.mem_of_getElem? (i := 21) rfl)
theorem p_13_5 {P : z_MP} (h : z_Pt P) : P 13 5 = some 19 := h (13, 5, 19) (List.mem_of_getElem? (i := 22) rfl)
theorem p_20_0 {P : z_MP} (h : z_Pt P) : P 20 0 = some 43 := h (20, 0, 43) (List.mem_of_getElem? (i := 23) rfl)
theorem p_20_1 {P : z_MP} (h : z_Pt P) : P 20 1 = some 50 := h (20, 1, 50) (List.mem_of_getElem? (i := 24) rfl)
theorem p_20_2 {P : z_MP} (h : z_Pt P) : P 20 2 = some 57 := h (20, 2, 57) (List.mem_of_getElem? (i := 25) rfl)
theorem p_20_3 {P : z_MP} (h : z_Pt P) : P 20 3 = some 64 := h (20, 3, 64) (List.mem_of_getElem? (i := 26) rfl)
theorem p_22_1 {P : z_MP} (h : z_Pt P) : P 22 1 = some 23 := h (22, 1, 23) (List.mem_of_getElem? (i := 27) rfl)
theorem p_22_2 {P : z_MP} (h : z_Pt P) : P 22 2 = some 24 := h (22, 2, 24) (List.mem_of_getElem? (i := 28) rfl)
theorem p_22_3 {P : z_MP} (h : z_Pt P) : P 22 3 = some 25 := h (22, 3, 25) (List.mem_of_getElem? (i := 29) rfl)
theorem p_22_4 {P : z_MP} (h : z_Pt P) : P 22 4 = some 26 := h (22, 4, 26) (List.mem_of_getElem? (i := 30) rfl)
theorem p_27_0 {P : z_MP} (h : z_Pt P) : P 27 0 = some 28 := h (27, 0, 28) (List.mem_of_getElem? (i := 31) rfl)
theorem p_27_1 {P : z_MP} (h : z_Pt P) : P 27 1 = some 33 := h (27, 1, 33) (List.mem_of_getElem? (i := 32) rfl)
theorem p_28_0 {P : z_MP} (h : z_Pt P) : P 28 0 = some 29 := h (28, 0, 29) (List.mem_of_getElem? (i := 33) rfl)
theorem p_28_1 {P : z_MP} (h : z_Pt P) : P 28 1 = some 30 := h (28, 1, 30) (List.mem_of_getElem? (i := 34) rfl)
theorem p_28_2 {P : z_MP} (h : z_Pt P) : P 28 2 = some 31 := h (28, 2, 31) (List.mem_of_getElem? (i := 35) rfl)
theorem p_28_3 {P : z_MP} (h : z_Pt P) : P 28 3 = some 32 := h (28, 3, 32) (List.mem_of_getElem? (i := 36) rfl)
theorem p_36_4 {P : z_MP} (h : z_Pt P) : P 36 4 = some 37 := h (36, 4, 37) (List.mem_of_getElem? (i := 37) rfl)
theorem p_36_5 {P : z_MP} (h : z_Pt P) : P 36 5 = some 38 := h (36, 5, 38) (List.mem_of_getElem? (i := 38) rfl)
theorem p_36_6 {P : z_MP} (h : z_Pt P) : P 36 6 = some 39 := h (36, 6, 39) (List.mem_of_getElem? (i := 39) rfl)
theorem p_36_7 {P : z_MP} (h : z_Pt P) : P 36 7 = some 40 := h (36, 7, 40) (List.mem_of_getElem? (i := 40) rfl)
theorem p_43_0 {P : z_MP} (h : z_Pt P) : P 43 0 = some 44 := h (43, 0, 44) (List.mem_of_getElem? (i := 41) rfl)
theorem p_43_1 {P : z_MP} (h : z_Pt P) : P 43 1 = some 45 := h (43, 1, 45) (List.mem_of_getElem? (i := 42) rfl)
theorem p_43_2 {P : z_MP} (h : z_Pt P) : P 43 2 = some 46 := h (43, 2, 46) (List.mem_of_getElem? (i := 43) rfl)
theorem p_43_3 {P : z_MP} (h : z_Pt P) : P 43 3 = some 47 := h (43, 3, 47) (List.mem_of_getElem? (i := 44) rfl)
theorem p_43_4 {P : z_MP} (h : z_Pt P) : P 43 4 = some 48 := h (43, 4, 48) (List.mem_of_getElem? (i := 45) rfl)
theorem p_43_5 {P : z_MP} (h : z_Pt P) : P 43 5 = some 49 := h (43, 5, 49) (List.mem_of_getElem? (i := 46) rfl)
theorem p_50_0 {P : z_MP} (h : z_Pt P) : P 50 0 = some 51 := h (50, 0, 51) (List.mem_of_getElem? (i := 47) rfl)
theorem p_50_1 {P : z_MP} (h : z_Pt P) : P 50 1 = some 52 := h (50, 1, 52) (List.mem_of_getElem? (i := 48) rfl)
theorem p_50_2 {P : z_MP} (h : z_Pt P) : P 50 2 = some 53 := h (50, 2, 53) (List.mem_of_getElem? (i := 49) rfl)
theorem p_50_3 {P : z_MP} (h : z_Pt P) : P 50 3 = some 54 := h (50, 3, 54) (List.mem_of_getElem? (i := 50) rfl)
theorem p_50_4 {P : z_MP} (h : z_Pt P) : P 50 4 = some 55 := h (50, 4, 55) (List.mem_of_getElem? (i := 51) rfl)
theorem p_50_5 {P : z_MP} (h : z_Pt P) : P 50 5 = some 56 := h (50, 5, 56) (List.mem_of_getElem? (i := 52) rfl)
theorem p_57_0 {P : z_MP} (h : z_Pt P) : P 57 0 = some 58 := h (57, 0, 58) (List.mem_of_getElem? (i := 53) rfl)
theorem p_57_1 {P : z_MP} (h : z_Pt P) : P 57 1 = some 59 := h (57, 1, 59) (List.mem_of_getElem? (i := 54) rfl)
theorem p_57_2 {P : z_MP} (h : z_Pt P) : P 57 2 = some 60 := h (57, 2, 60) (List.mem_of_getElem? (i := 55) rfl)
theorem p_57_3 {P : z_MP} (h : z_Pt P) : P 57 3 = some 61 := h (57, 3, 61) (List.mem_of_getElem? (i := 56) rfl)
theorem p_57_4 {P : z_MP} (h : z_Pt P) : P 57 4 = some 62 := h (57, 4, 62) (List.mem_of_getElem? (i := 57) rfl)
theorem p_57_5 {P : z_MP} (h : z_Pt P) : P 57 5 = some 63 := h (57, 5, 63) (List.mem_of_getElem? (i := 58) rfl)
theorem p_64_0 {P : z_MP} (h : z_Pt P) : P 64 0 = some 65 := h (64, 0, 65) (List.mem_of_getElem? (i := 59) rfl)
theorem p_64_1 {P : z_MP} (h : z_Pt P) : P 64 1 = some 66 := h (64, 1, 66) (List.mem_of_getElem? (i := 60) rfl)
theorem p_64_2 {P : z_MP} (h : z_Pt P) : P 64 2 = some 67 := h (64, 2, 67) (List.mem_of_getElem? (i := 61) rfl)
theorem p_64_3 {P : z_MP} (h : z_Pt P) : P 64 3 = some 68 := h (64, 3, 68) (List.mem_of_getElem? (i := 62) rfl)
theorem p_64_4 {P : z_MP} (h : z_Pt P) : P 64 4 = some 69 := h (64, 4, 69) (List.mem_of_getElem? (i := 63) rfl)
theorem p_64_5 {P : z_MP} (h : z_Pt P) : P 64 5 = some 70 := h (64, 5, 70) (List.mem_of_getElem? (i := 64) rfl)
theorem p_83_1 {P : z_MP} (h : z_Pt P) : P 83 1 = some 84 := h (83, 1, 84) (List.mem_of_getElem? (i := 65) rfl)
theorem p_83_2 {P : z_MP} (h : z_Pt P) : P 83 2 = some 85 := h (83, 2, 85) (List.mem_of_getElem? (i := 66) rfl)
theorem p_83_3 {P : z_MP} (h : z_Pt P) : P 83 3 = some 86 := h (83, 3, 86) (List.mem_of_getElem? (i := 67) rfl)
theorem p_83_4 {P : z_MP} (h : z_Pt P) : P 83 4 = some 87 := h (83, 4, 87) (List.mem_of_getElem? (i := 68) rfl)
theorem p_83_5 {P : z_MP} (h : z_Pt P) : P 83 5 = some 88 := h (83, 5, 88) (List.mem_of_getElem? (i := 69) rfl)
theorem p_83_6 {P : z_MP} (h : z_Pt P) : P 83 6 = some 89 := h (83, 6, 89) (List.mem_of_getElem? (i := 70) rfl)
theorem p_83_7 {P : z_MP} (h : z_Pt P) : P 83 7 = some 90 := h (83, 7, 90) (List.mem_of_getElem? (i := 71) rfl)
theorem p_83_8 {P : z_MP} (h : z_Pt P) : P 83 8 = some 91 := h (83, 8, 91) (List.mem_of_getElem? (i := 72) rfl)
theorem p_83_9 {P : z_MP} (h : z_Pt P) : P 83 9 = some 92 := h (83, 9, 92) (List.mem_of_getElem? (i := 73) rfl)
theorem p_83_10 {P : z_MP} (h : z_Pt P) : P 83 10 = some 93 := h (83, 10, 93) (List.mem_of_getElem? (i := 74) rfl)
theorem p_83_11 {P : z_MP} (h : z_Pt P) : P 83 11 = some 94 := h (83, 11, 94) (List.mem_of_getElem? (i := 75) rfl)
theorem p_83_12 {P : z_MP} (h : z_Pt P) : P 83 12 = some 95 := h (83, 12, 95) (List.mem_of_getElem? (i := 76) rfl)
theorem p_83_13 {P : z_MP} (h : z_Pt P) : P 83 13 = some 96 := h (83, 13, 96) (List.mem_of_getElem? (i := 77) rfl)
theorem p_83_14 {P : z_MP} (h : z_Pt P) : P 83 14 = some 97 := h (83, 14, 97) (List.mem_of_getElem? (i := 78) rfl)
theorem p_83_15 {P : z_MP} (h : z_Pt P) : P 83 15 = some 98 := h (83, 15, 98) (List.mem_of_getElem? (i := 79) rfl)
theorem p_83_17 {P : z_MP} (h : z_Pt P) : P 83 17 = some 99 := h (83, 17, 99) (List.mem_of_getElem? (i := 80) rfl)
theorem p_83_27 {P : z_MP} (h : z_Pt P) : P 83 27 = some 100 := h (83, 27, 100) (List.mem_of_getElem? (i := 81) rfl)
theorem p_83_30 {P : z_MP} (h : z_Pt P) : P 83 30 = some 101 := h (83, 30, 101) (List.mem_of_getElem? (i := 82) rfl)
theorem p_83_31 {P : z_MP} (h : z_Pt P) : P 83 31 = some 102 := h (83, 31, 102) (List.mem_of_getElem? (i := 83) rfl)
theorem p_83_33 {P : z_MP} (h : z_Pt P) : P 83 33 = some 103 := h (83, 33, 103) (List.mem_of_getElem? (i := 84) rfl)
theorem p_83_35 {P : z_MP} (h : z_Pt P) : P 83 35 = some 104 := h (83, 35, 104) (List.mem_of_getElem? (i := 85) rfl)
theorem p_83_36 {P : z_MP} (h : z_Pt P) : P 83 36 = some 105 := h (83, 36, 105) (List.mem_of_getElem? (i := 86) rfl)
theorem p_83_37 {P : z_MP} (h : z_Pt P) : P 83 37 = some 106 := h (83, 37, 106) (List.mem_of_getElem? (i := 87) rfl)
theorem p_83_38 {P : z_MP} (h : z_Pt P) : P 83 38 = some 107 := h (83, 38, 107) (List.mem_of_getElem? (i := 88) rfl)
theorem p_83_40 {P : z_MP} (h : z_Pt P) : P 83 40 = some 108 := h (83, 40, 108) (List.mem_of_getElem? (i := 89) rfl)
theorem p_83_41 {P : z_MP} (h : z_Pt P) : P 83 41 = some 109 := h (83, 41, 109) (List.mem_of_getElem? (i := 90) rfl)
theorem p_83_42 {P : z_MP} (h : z_Pt P) : P 83 42 = some 110 := h (83, 42, 110) (List.mem_of_getElem? (i := 91) rfl)
theorem p_83_43 {P : z_MP} (h : z_Pt P) : P 83 43 = some 111 := h (83, 43, 111) (List.mem_of_getElem? (i := 92) rfl)
theorem p_83_44 {P : z_MP} (h : z_Pt P) : P 83 44 = some 112 := h (83, 44, 112) (List.mem_of_getElem? (i := 93) rfl)
theorem p_83_45 {P : z_MP} (h : z_Pt P) : P 83 45 = some 113 := h (83, 45, 113) (List.mem_of_getElem? (i := 94) rfl)
theorem p_83_46 {P : z_MP} (h : z_Pt P) : P 83 46 = some 114 := h (83, 46, 114) (List.mem_of_getElem? (i := 95) rfl)
theorem p_83_47 {P : z_MP} (h : z_Pt P) : P 83 47 = some 115 := h (83, 47, 115) (List.mem_of_getElem? (i := 96) rfl)
theorem p_83_48 {P : z_MP} (h : z_Pt P) : P 83 48 = some 116 := h (83, 48, 116) (List.mem_of_getElem? (i := 97) rfl)
theorem p_83_49 {P : z_MP} (h : z_Pt P) : P 83 49 = some 117 := h (83, 49, 117) (List.mem_of_getElem? (i := 98) rfl)
theorem p_83_50 {P : z_MP} (h : z_Pt P) : P 83 50 = some 118 := h (83, 50, 118) (List.mem_of_getElem? (i := 99) rfl)
theorem p_83_51 {P : z_MP} (h : z_Pt P) : P 83 51 = some 119 := h (83, 51, 119) (List.mem_of_getElem? (i := 100) rfl)
theorem p_83_55 {P : z_MP} (h : z_Pt P) : P 83 55 = some 120 := h (83, 55, 120) (List.mem_of_getElem? (i := 101) rfl)
theorem p_83_56 {P : z_MP} (h : z_Pt P) : P 83 56 = some 121 := h (83, 56, 121) (List.mem_of_getElem? (i := 102) rfl)
theorem p_83_57 {P : z_MP} (h : z_Pt P) : P 83 57 = some 122 := h (83, 57, 122) (List.mem_of_getElem? (i := 103) rfl)
theorem p_83_59 {P : z_MP} (h : z_Pt P) : P 83 59 = some 123 := h (83, 59, 123) (List.mem_of_getElem? (i := 104) rfl)
theorem p_83_60 {P : z_MP} (h : z_Pt P) : P 83 60 = some 124 := h (83, 60, 124) (List.mem_of_getElem? (i := 105) rfl)
theorem p_83_61 {P : z_MP} (h : z_Pt P) : P 83 61 = some 125 := h (83, 61, 125) (List.mem_of_getElem? (i := 106) rfl)
theorem p_83_62 {P : z_MP} (h : z_Pt P) : P 83 62 = some 126 := h (83, 62, 126) (List.mem_of_getElem? (i := 107) rfl)
theorem p_83_63 {P : z_MP} (h : z_Pt P) : P 83 63 = some 127 := h (83, 63, 127) (List.mem_of_getElem? (i := 108) rfl)
theorem p_83_64 {P : z_MP} (h : z_Pt P) : P 83 64 = some 128 := h (83, 64, 128) (List.mem_of_getElem? (i := 109) rfl)
theorem p_83_65 {P : z_MP} (h : z_Pt P) : P 83 65 = some 129 := h (83, 65, 129) (List.mem_of_getElem? (i := 110) rfl)
theorem z_Mr {S : z_SH} {P : z_MP} (hS : z_St S) (hP : z_Pt P) :
    (∀ I J P n, q_ob (z_h S I J P n) 12 83 = some (z_vs I J P 83 [0, 2, 2, 2, 2, 2, 2, 2, 2, 2, 2, 2, 2, 2, 2, 2, 0, 2, 0, 0, 0, 0, 1, 0, 0, 1, 1, 2, 0, 0, 2, 2, 0, 2, 1, 2, 2, 2, 2, 0, 2, 2, 2, 2, 2, 2, 2, 2, 2, 2, 2, 2, 1, 0, 0, 2, 2, 2, 0, 2, 2, 2, 2, 2, 2, 2])) ∧
    (∀ I J P n, q_gi (q_gf (z_h S I J P n) 12 83 0) = some (I 83 0)) ∧
    (∀ I J n, q_gr (q_gf (z_h S I J P n) 12 83 1) = some 84) ∧
    (∀ I J n, q_gr (q_gf (z_h S I J P n) 12 83 2) = some 85) ∧
    (∀ I J n, q_gr (q_gf (z_h S I J P n) 12 83 3) = some 86) ∧
    (∀ I J n, q_gr (q_gf (z_h S I J P n) 12 83 4) = some 87) ∧
    (∀ I J n, q_gr (q_gf (z_h S I J P n) 12 83 5) = some 88) ∧
    (∀ I J n, q_gr (q_gf (z_h S I J P n) 12 83 6) = some 89) ∧
    (∀ I J n, q_gr (q_gf (z_h S I J P n) 12 83 7) = some 90) ∧
    (∀ I J n, q_gr (q_gf (z_h S I J P n) 12 83 8) = some 91) ∧
    (∀ I J n, q_gr (q_gf (z_h S I J P n) 12 83 9) = some 92) ∧
    (∀ I J n, q_gr (q_gf (z_h S I J P n) 12 83 10) = some 93) ∧
    (∀ I J n, q_gr (q_gf (z_h S I J P n) 12 83 11) = some 94) ∧
    (∀ I J n, q_gr (q_gf (z_h S I J P n) 12 83 12) = some 95) ∧
    (∀ I J n, q_gr (q_gf (z_h S I J P n) 12 83 13) = some 96) ∧
    (∀ I J n, q_gr (q_gf (z_h S I J P n) 12 83 14) = some 97) ∧
    (∀ I J n, q_gr (q_gf (z_h S I J P n) 12 83 15) = some 98) ∧
    (∀ I J P n, q_gi (q_gf (z_h S I J P n) 12 83 16) = some (I 83 16)) ∧
    (∀ I J n, q_gr (q_gf (z_h S I J P n) 12 83 17) = some 99) ∧
    (∀ I J P n, q_gi (q_gf (z_h S I J P n) 12 83 18) = some (I 83 18)) ∧
    (∀ I J P n, q_gi (q_gf (z_h S I J P n) 12 83 19) = some (I 83 19)) ∧
    (∀ I J P n, q_gi (q_gf (z_h S I J P n) 12 83 20) = some (I 83 20)) ∧
    (∀ I J P n, q_gi (q_gf (z_h S I J P n) 12 83 21) = some (I 83 21)) ∧
    (∀ I J P n, q_gl' (q_gf (z_h S I J P n) 12 83 22) = some (J 83 22)) ∧
    (∀ I J P n, q_gi (q_gf (z_h S I J P n) 12 83 23) = some (I 83 23)) ∧
    (∀ I J P n, q_gi (q_gf (z_h S I J P n) 12 83 24) = some (I 83 24)) ∧
    (∀ I J P n, q_gl' (q_gf (z_h S I J P n) 12 83 25) = some (J 83 25)) ∧
    (∀ I J P n, q_gl' (q_gf (z_h S I J P n) 12 83 26) = some (J 83 26)) ∧
    (∀ I J n, q_gr (q_gf (z_h S I J P n) 12 83 27) = some 100) ∧
    (∀ I J P n, q_gi (q_gf (z_h S I J P n) 12 83 28) = some (I 83 28)) ∧
    (∀ I J P n, q_gi (q_gf (z_h S I J P n) 12 83 29) = some (I 83 29)) ∧
    (∀ I J n, q_gr (q_gf (z_h S I J P n) 12 83 30) = some 101) ∧
    (∀ I J n, q_gr (q_gf (z_h S I J P n) 12 83 31) = some 102) ∧
    (∀ I J P n, q_gi (q_gf (z_h S I J P n) 12 83 32) = some (I 83 32)) ∧
    (∀ I J n, q_gr (q_gf (z_h S I J P n) 12 83 33) = some 103) ∧
    (∀ I J P n, q_gl' (q_gf (z_h S I J P n) 12 83 34) = some (J 83 34)) ∧
    (∀ I J n, q_gr (q_gf (z_h S I J P n) 12 83 35) = some 104) ∧
    (∀ I J n, q_gr (q_gf (z_h S I J P n) 12 83 36) = some 105) ∧
    (∀ I J n, q_gr (q_gf (z_h S I J P n) 12 83 37) = some 106) ∧
    (∀ I J n, q_gr (q_gf (z_h S I J P n) 12 83 38) = some 107) ∧
    (∀ I J P n, q_gi (q_gf (z_h S I J P n) 12 83 39) = some (I 83 39)) ∧
    (∀ I J n, q_gr (q_gf (z_h S I J P n) 12 83 40) = some 108) ∧
    (∀ I J n, q_gr (q_gf (z_h S I J P n) 12 83 41) = some 109) ∧
    (∀ I J n, q_gr (q_gf (z_h S I J P n) 12 83 42) = some 110) ∧
    (∀ I J n, q_gr (q_gf (z_h S I J P n) 12 83 43) = some 111) ∧
    (∀ I J n, q_gr (q_gf (z_h S I J P n) 12 83 44) = some 112) ∧
    (∀ I J n, q_gr (q_gf (z_h S I J P n) 12 83 45) = some 113) ∧
    (∀ I J n, q_gr (q_gf (z_h S I J P n) 12 83 46) = some 114) ∧
    (∀ I J n, q_gr (q_gf (z_h S I J P n) 12 83 47) = some 115) ∧
    (∀ I J n, q_gr (q_gf (z_h S I J P n) 12 83 48) = some 116) ∧
    (∀ I J n, q_gr (q_gf (z_h S I J P n) 12 83 49) = some 117) ∧
    (∀ I J n, q_gr (q_gf (z_h S I J P n) 12 83 50) = some 118) ∧
    (∀ I J n, q_gr (q_gf (z_h S I J P n) 12 83 51) = some 119) ∧
    (∀ I J P n, q_gl' (q_gf (z_h S I J P n) 12 83 52) = some (J 83 52)) ∧
    (∀ I J P n, q_gi (q_gf (z_h S I J P n) 12 83 53) = some (I 83 53)) ∧
    (∀ I J P n, q_gi (q_gf (z_h S I J P n) 12 83 54) = some (I 83 54)) ∧
    (∀ I J n, q_gr (q_gf (z_h S I J P n) 12 83 55) = some 120) ∧
    (∀ I J n, q_gr (q_gf (z_h S I J P n) 12 83 56) = some 121) ∧
    (∀ I J n, q_gr (q_gf (z_h S I J P n) 12 83 57) = some 122) ∧
    (∀ I J P n, q_gi (q_gf (z_h S I J P n) 12 83 58) = some (I 83 58)) ∧
    (∀ I J n, q_gr (q_gf (z_h S I J P n) 12 83 59) = some 123) ∧
    (∀ I J n, q_gr (q_gf (z_h S I J P n) 12 83 60) = some 124) ∧
    (∀ I J n, q_gr (q_gf (z_h S I J P n) 12 83 61) = some 125) ∧
    (∀ I J n, q_gr (q_gf (z_h S I J P n) 12 83 62) = some 126) ∧
    (∀ I J n, q_gr (q_gf (z_h S I J P n) 12 83 63) = some 127) ∧
    (∀ I J n, q_gr (q_gf (z_h S I J P n) 12 83 64) = some 128) ∧
    (∀ I J n, q_gr (q_gf (z_h S I J P n) 12 83 65) = some 129) ∧
    (∀ I J P n, q_len' (z_h S I J P n) 84 = some (z_n 6)) ∧
    (∀ I J P n i, i < 6 → q_gi (q_ga (z_h S I J P n) 20 84 (z_n i)) = some (I 84 i)) ∧
    (∀ I J P n, q_len' (z_h S I J P n) 85 = some (z_n 24)) ∧
    (∀ I J P n i, i < 24 → q_gi (q_ga (z_h S I J P n) 22 85 (z_n i)) = some (I 85 i)) ∧
    (∀ I J P n, q_len' (z_h S I J P n) 86 = some (z_n 24)) ∧
    (∀ I J P n i, i < 24 → q_gi (q_ga (z_h S I J P n) 22 86 (z_n i)) = some (I 86 i)) ∧
    (∀ I J P n, q_len' (z_h S I J P n) 87 = some (z_n 24)) ∧
    (∀ I J P n i, i < 24 → q_gi (q_ga (z_h S I J P n) 20 87 (z_n i)) = some (I 87 i)) ∧
    (∀ I J P n, q_len' (z_h S I J P n) 88 = some (z_n 24)) ∧
    (∀ I J P n i, i < 24 → q_gi (q_ga (z_h S I J P n) 20 88 (z_n i)) = some (I 88 i)) ∧
    (∀ I J P n, q_len' (z_h S I J P n) 89 = some (z_n 24)) ∧
    (∀ I J P n i, i < 24 → q_gi (q_ga (z_h S I J P n) 20 89 (z_n i)) = some (I 89 i)) ∧
    (∀ I J P n, q_len' (z_h S I J P n) 90 = some (z_n 25)) ∧
    (∀ I J P n i, i < 25 → q_gi (q_ga (z_h S I J P n) 20 90 (z_n i)) = some (I 90 i)) ∧
    (∀ I J P n, q_len' (z_h S I J P n) 91 = some (z_n 300)) ∧
    (∀ I J P n i, i < 300 → q_gi (q_ga (z_h S I J P n) 20 91 (z_n i)) = some (I 91 i)) ∧
    (∀ I J P n, q_len' (z_h S I J P n) 92 = some (z_n 300)) ∧
    (∀ I J P n i, i < 300 → q_gi (q_ga (z_h S I J P n) 20 92 (z_n i)) = some (I 92 i)) ∧
    (∀ I J P n, q_len' (z_h S I J P n) 93 = some (z_n 300)) ∧
    (∀ I J P n i, i < 300 → q_gi (q_ga (z_h S I J P n) 20 93 (z_n i)) = some (I 93 i)) ∧
    (∀ I J P n, q_len' (z_h S I J P n) 94 = some (z_n 300)) ∧
    (∀ I J P n i, i < 300 → q_gi (q_ga (z_h S I J P n) 20 94 (z_n i)) = some (I 94 i)) ∧
    (∀ I J P n, q_len' (z_h S I J P n) 95 = some (z_n 300)) ∧
    (∀ I J P n i, i < 300 → q_gi (q_ga (z_h S I J P n) 20 95 (z_n i)) = some (I 95 i)) ∧
    (∀ I J P n, q_len' (z_h S I J P n) 96 = some (z_n 300)) ∧
    (∀ I J P n i, i < 300 → q_gl' (q_ga (z_h S I J P n) 21 96 (z_n i)) = some (J 96 i)) ∧
    (∀ I J P n, q_len' (z_h S I J P n) 97 = some (z_n 300)) ∧
    (∀ I J P n i, i < 300 → q_gl' (q_ga (z_h S I J P n) 21 97 (z_n i)) = some (J 97 i)) ∧
    (∀ I J P n, q_len' (z_h S I J P n) 98 = some (z_n 300)) ∧
    (∀ I J P n i, i < 300 → q_gl' (q_ga (z_h S I J P n) 21 98 (z_n i)) = some (J 98 i)) ∧
    (∀ I J P n, q_len' (z_h S I J P n) 99 = some (z_n 1000)) ∧
    (∀ I J P n i, i < 1000 → q_gi (q_ga (z_h S I J P n) 20 99 (z_n i)) = some (I 99 i)) ∧
    (∀ I J P n, q_len' (z_h S I J P n) 100 = some (z_n 24)) ∧
    (∀ I J P n i, i < 24 → q_gi (q_ga (z_h S I J P n) 20 100 (z_n i)) = some (I 100 i)) ∧
    (∀ I J P n, q_len' (z_h S I J P n) 101 = some (z_n 68)) ∧
    (∀ I J P n i, i < 68 → q_gi (q_ga (z_h S I J P n) 20 101 (z_n i)) = some (I 101 i)) ∧
    (∀ I J P n, q_len' (z_h S I J P n) 102 = some (z_n 17)) ∧
    (∀ I J P n i, i < 17 → q_gi (q_ga (z_h S I J P n) 20 102 (z_n i)) = some (I 102 i)) ∧
    (∀ I J P n, q_len' (z_h S I J P n) 103 = some (z_n 4)) ∧
    (∀ I J P n i, i < 4 → q_gi (q_ga (z_h S I J P n) 20 103 (z_n i)) = some (I 103 i)) ∧
    (∀ I J P n, q_len' (z_h S I J P n) 104 = some (z_n 5)) ∧
    (∀ I J P n i, i < 5 → q_gi (q_ga (z_h S I J P n) 20 104 (z_n i)) = some (I 104 i)) ∧
    (∀ I J P n, q_len' (z_h S I J P n) 105 = some (z_n 30)) ∧
    (∀ I J P n i, i < 30 → q_gi (q_ga (z_h S I J P n) 20 105 (z_n i)) = some (I 105 i)) ∧
    (∀ I J P n, q_len' (z_h S I J P n) 106 = some (z_n 30)) ∧
    (∀ I J P n i, i < 30 → q_gi (q_ga (z_h S I J P n) 20 106 (z_n i)) = some (I 106 i)) ∧
    (∀ I J P n, q_len' (z_h S I J P n) 107 = some (z_n 5000)) ∧
    (∀ I J P n i, i < 5000 → q_gi (q_ga (z_h S I J P n) 20 107 (z_n i)) = some (I 107 i)) ∧
    (∀ I J P n, q_len' (z_h S I J P n) 108 = some (z_n 7)) ∧
    (∀ I J P n i, i < 7 → q_gi (q_ga (z_h S I J P n) 20 108 (z_n i)) = some (I 108 i)) ∧
    (∀ I J P n, q_len' (z_h S I J P n) 109 = some (z_n 7)) ∧
    (∀ I J P n i, i < 7 → q_gi (q_ga (z_h S I J P n) 22 109 (z_n i)) = some (I 109 i)) ∧
    (∀ I J P n, q_len' (z_h S I J P n) 110 = some (z_n 7)) ∧
    (∀ I J P n i, i < 7 → q_gi (q_ga (z_h S I J P n) 20 110 (z_n i)) = some (I 110 i)) ∧
    (∀ I J P n, q_len' (z_h S I J P n) 111 = some (z_n 7)) ∧
    (∀ I J P n i, i < 7 → q_gi (q_ga (z_h S I J P n) 20 111 (z_n i)) = some (I 111 i)) ∧
    (∀ I J P n, q_len' (z_h S I J P n) 112 = some (z_n 7)) ∧
    (∀ I J P n i, i < 7 → q_gi (q_ga (z_h S I J P n) 20 112 (z_n i)) = some (I 112 i)) ∧
    (∀ I J P n, q_len' (z_h S I J P n) 113 = some (z_n 7)) ∧
    (∀ I J P n i, i < 7 → q_gi (q_ga (z_h S I J P n) 20 113 (z_n i)) = some (I 113 i)) ∧
    (∀ I J P n, q_len' (z_h S I J P n) 114 = some (z_n 7)) ∧
    (∀ I J P n i, i < 7 → q_gi (q_ga (z_h S I J P n) 20 114 (z_n i)) = some (I 114 i)) ∧
    (∀ I J P n, q_len' (z_h S I J P n) 115 = some (z_n 7)) ∧
    (∀ I J P n i, i < 7 → q_gi (q_ga (z_h S I J P n) 20 115 (z_n i)) = some (I 115 i)) ∧
    (∀ I J P n, q_len' (z_h S I J P n) 116 = some (z_n 7)) ∧
    (∀ I J P n i, i < 7 → q_gi (q_ga (z_h S I J P n) 20 116 (z_n i)) = some (I 116 i)) ∧
    (∀ I J P n, q_len' (z_h S I J P n) 117 = some (z_n 7)) ∧
    (∀ I J P n i, i < 7 → q_gi (q_ga (z_h S I J P n) 20 117 (z_n i)) = some (I 117 i)) ∧
    (∀ I J P n, q_len' (z_h S I J P n) 118 = some (z_n 7)) ∧
    (∀ I J P n i, i < 7 → q_gi (q_ga (z_h S I J P n) 20 118 (z_n i)) = some (I 118 i)) ∧
    (∀ I J P n, q_len' (z_h S I J P n) 119 = some (z_n 20)) ∧
    (∀ I J P n i, i < 20 → q_gi (q_ga (z_h S I J P n) 20 119 (z_n i)) = some (I 119 i)) ∧
    (∀ I J P n, q_len' (z_h S I J P n) 120 = some (z_n 6)) ∧
    (∀ I J P n i, i < 6 → q_gi (q_ga (z_h S I J P n) 20 120 (z_n i)) = some (I 120 i)) ∧
    (∀ I J P n, q_len' (z_h S I J P n) 121 = some (z_n 6)) ∧
    (∀ I J P n i, i < 6 → q_gi (q_ga (z_h S I J P n) 22 121 (z_n i)) = some (I 121 i)) ∧
    (∀ I J P n, q_len' (z_h S I J P n) 122 = some (z_n 6)) ∧
    (∀ I J P n i, i < 6 → q_gi (q_ga (z_h S I J P n) 22 122 (z_n i)) = some (I 122 i)) ∧
    (∀ I J P n, q_len' (z_h S I J P n) 123 = some (z_n 225)) ∧
    (∀ I J P n i, i < 225 → q_gi (q_ga (z_h S I J P n) 20 123 (z_n i)) = some (I 123 i)) ∧
    (∀ I J P n, q_len' (z_h S I J P n) 124 = some (z_n 225)) ∧
    (∀ I J P n i, i < 225 → q_gi (q_ga (z_h S I J P n) 20 124 (z_n i)) = some (I 124 i)) ∧
    (∀ I J P n, q_len' (z_h S I J P n) 125 = some (z_n 4)) ∧
    (∀ I J P n i, i < 4 → q_gi (q_ga (z_h S I J P n) 22 125 (z_n i)) = some (I 125 i)) ∧
    (∀ I J P n, q_len' (z_h S I J P n) 126 = some (z_n 24)) ∧
    (∀ I J P n i, i < 24 → q_gi (q_ga (z_h S I J P n) 20 126 (z_n i)) = some (I 126 i)) ∧
    (∀ I J P n, q_len' (z_h S I J P n) 127 = some (z_n 576)) ∧
    (∀ I J P n i, i < 576 → q_gi (q_ga (z_h S I J P n) 20 127 (z_n i)) = some (I 127 i)) ∧
    (∀ I J P n, q_len' (z_h S I J P n) 128 = some (z_n 5760)) ∧
    (∀ I J P n i, i < 5760 → q_gi (q_ga (z_h S I J P n) 20 128 (z_n i)) = some (I 128 i)) ∧
    (∀ I J P n, q_len' (z_h S I J P n) 129 = some (z_n 3456)) ∧
    (∀ I J P n i, i < 3456 → q_gl' (q_ga (z_h S I J P n) 21 129 (z_n i)) = some (J 129 i)) :=
  ⟨fun _ _ _ _ => z_ob (s_83 hS),
   fun _ _ _ _ => z_gi (s_83 hS) rfl,
   fun _ _ _ => z_gr (s_83 hS) rfl (p_83_1 hP),
   fun _ _ _ => z_gr (s_83 hS) rfl (p_83_2 hP),
   fun _ _ _ => z_gr (s_83 hS) rfl (p_83_3 hP),
   fun _ _ _ => z_gr (s_83 hS) rfl (p_83_4 hP),
   fun _ _ _ => z_gr (s_83 hS) rfl (p_83_5 hP),
   fun _ _ _ => z_gr (s_83 hS) rfl (p_83_6 hP),
   fun _ _ _ => z_gr (s_83 hS) rfl (p_83_7 hP),
   fun _ _ _ => z_gr (s_83 hS) rfl (p_83_8 hP),
   fun _ _ _ => z_gr (s_83 hS) rfl (p_83_9 hP),
   fun _ _ _ => z_gr (s_83 hS) rfl (p_83_10 hP),
   fun _ _ _ => z_gr (s_83 hS) rfl (p_83_11 hP),
   fun _ _ _ => z_gr (s_83 hS) rfl (p_83_12 hP),
   fun _ _ _ => z_gr (s_83 hS) rfl (p_83_13 hP),
   fun _ _ _ => z_gr (s_83 hS) rfl (p_83_14 hP),
   fun _ _ _ => z_gr (s_83 hS) rfl (p_83_15 hP),
   fun _ _ _ _ => z_gi (s_83 hS) rfl,
   fun _ _ _ => z_gr (s_83 hS) rfl (p_83_17 hP),
   fun _ _ _ _ => z_gi (s_83 hS) rfl,
   fun _ _ _ _ => z_gi (s_83 hS) rfl,
   fun _ _ _ _ => z_gi (s_83 hS) rfl,
   fun _ _ _ _ => z_gi (s_83 hS) rfl,
   fun _ _ _ _ => z_gl (s_83 hS) rfl,
   fun _ _ _ _ => z_gi (s_83 hS) rfl,
   fun _ _ _ _ => z_gi (s_83 hS) rfl,
   fun _ _ _ _ => z_gl (s_83 hS) rfl,
   fun _ _ _ _ => z_gl (s_83 hS) rfl,
   fun _ _ _ => z_gr (s_83 hS) rfl (p_83_27 hP),
   fun _ _ _ _ => z_gi (s_83 hS) rfl,
   fun _ _ _ _ => z_gi (s_83 hS) rfl,
   fun _ _ _ => z_gr (s_83 hS) rfl (p_83_30 hP),
   fun _ _ _ => z_gr (s_83 hS) rfl (p_83_31 hP),
   fun _ _ _ _ => z_gi (s_83 hS) rfl,
   fun _ _ _ => z_gr (s_83 hS) rfl (p_83_33 hP),
   fun _ _ _ _ => z_gl (s_83 hS) rfl,
   fun _ _ _ => z_gr (s_83 hS) rfl (p_83_35 hP),
   fun _ _ _ => z_gr (s_83 hS) rfl (p_83_36 hP),
   fun _ _ _ => z_gr (s_83 hS) rfl (p_83_37 hP),
   fun _ _ _ => z_gr (s_83 hS) rfl (p_83_38 hP),
   fun _ _ _ _ => z_gi (s_83 hS) rfl,
   fun _ _ _ => z_gr (s_83 hS) rfl (p_83_40 hP),
   fun _ _ _ => z_gr (s_83 hS) rfl (p_83_41 hP),
   fun _ _ _ => z_gr (s_83 hS) rfl (p_83_42 hP),
   fun _ _ _ => z_gr (s_83 hS) rfl (p_83_43 hP),
   fun _ _ _ => z_gr (s_83 hS) rfl (p_83_44 hP),
   fun _ _ _ => z_gr (s_83 hS) rfl (p_83_45 hP),
   fun _ _ _ => z_gr (s_83 hS) rfl (p_83_46 hP),
   fun _ _ _ => z_gr (s_83 hS) rfl (p_83_47 hP),
   fun _ _ _ => z_gr (s_83 hS) rfl (p_83_48 hP),
   fun _ _ _ => z_gr (s_83 hS) rfl (p_83_49 hP),
   fun _ _ _ => z_gr (s_83 hS) rfl (p_83_50 hP),
   fun _ _ _ => z_gr (s_83 hS) rfl (p_83_51 hP),
   fun _ _ _ _ => z_gl (s_83 hS) rfl,
   fun _ _ _ _ => z_gi (s_83 hS) rfl,
   fun _ _ _ _ => z_gi (s_83 hS) rfl,
   fun _ _ _ => z_gr (s_83 hS) rfl (p_83_55 hP),
   fun _ _ _ => z_gr (s_83 hS) rfl (p_83_56 hP),
   fun _ _ _ => z_gr (s_83 hS) rfl (p_83_57 hP),
   fun _ _ _ _ => z_gi (s_83 hS) rfl,
   fun _ _ _ => z_gr (s_83 hS) rfl (p_83_59 hP),
   fun _ _ _ => z_gr (s_83 hS) rfl (p_83_60 hP),
   fun _ _ _ => z_gr (s_83 hS) rfl (p_83_61 hP),
   fun _ _ _ => z_gr (s_83 hS) rfl (p_83_62 hP),
   fun _ _ _ => z_gr (s_83 hS) rfl (p_83_63 hP),
   fun _ _ _ => z_gr (s_83 hS) rfl (p_83_64 hP),
   fun _ _ _ => z_gr (s_83 hS) rfl (p_83_65 hP),
   fun _ _ _ _ => z_len (s_84 hS) (by decide) (by rw [List.length_replicate]),
   fun _ _ _ _ _ hi => z_gia (s_84 hS) (by omega) (z_rpl hi),
   fun _ _ _ _ => z_len (s_85 hS) (by decide) (by rw [List.length_replicate]),
   fun _ _ _ _ _ hi => z_gia (s_85 hS) (by omega) (z_rpl hi),
   fun _ _ _ _ => z_len (s_86 hS) (by decide) (by rw [List.length_replicate]),
   fun _ _ _ _ _ hi => z_gia (s_86 hS) (by omega) (z_rpl hi),
   fun _ _ _ _ => z_len (s_87 hS) (by decide) (by rw [List.length_replicate]),
   fun _ _ _ _ _ hi => z_gia (s_87 hS) (by omega) (z_rpl hi),
   fun _ _ _ _ => z_len (s_88 hS) (by decide) (by rw [List.length_replicate]),
   fun _ _ _ _ _ hi => z_gia (s_88 hS) (by omega) (z_rpl hi),
   fun _ _ _ _ => z_len (s_89 hS) (by decide) (by rw [List.length_replicate]),
   fun _ _ _ _ _ hi => z_gia (s_89 hS) (by omega) (z_rpl hi),
   fun _ _ _ _ => z_len (s_90 hS) (by decide) (by rw [List.length_replicate]),
   fun _ _ _ _ _ hi => z_gia (s_90 hS) (by omega) (z_rpl hi),
   fun _ _ _ _ => z_len (s_91 hS) (by decide) (by rw [List.length_replicate]),
   fun _ _ _ _ _ hi => z_gia (s_91 hS) (by omega) (z_rpl hi),
   fun _ _ _ _ => z_len (s_92 hS) (by decide) (by rw [List.length_replicate]),
   fun _ _ _ _ _ hi => z_gia (s_92 hS) (by omega) (z_rpl hi),
   fun _ _ _ _ => z_len (s_93 hS) (by decide) (by rw [List.length_replicate]),
   fun _ _ _ _ _ hi => z_gia (s_93 hS) (by omega) (z_rpl hi),
   fun _ _ _ _ => z_len (s_94 hS) (by decide) (by rw [List.length_replicate]),
   fun _ _ _ _ _ hi => z_gia (s_94 hS) (by omega) (z_rpl hi),
   fun _ _ _ _ => z_len (s_95 hS) (by decide) (by rw [List.length_replicate]),
   fun _ _ _ _ _ hi => z_gia (s_95 hS) (by omega) (z_rpl hi),
   fun _ _ _ _ => z_len (s_96 hS) (by decide) (by rw [List.length_replicate]),
   fun _ _ _ _ _ hi => z_gla (s_96 hS) (by omega) (z_rpl hi),
   fun _ _ _ _ => z_len (s_97 hS) (by decide) (by rw [List.length_replicate]),
   fun _ _ _ _ _ hi => z_gla (s_97 hS) (by omega) (z_rpl hi),
   fun _ _ _ _ => z_len (s_98 hS) (by decide) (by rw [List.length_replicate]),
   fun _ _ _ _ _ hi => z_gla (s_98 hS) (by omega) (z_rpl hi),
   fun _ _ _ _ => z_len (s_99 hS) (by decide) (by rw [List.length_replicate]),
   fun _ _ _ _ _ hi => z_gia (s_99 hS) (by omega) (z_rpl hi),
   fun _ _ _ _ => z_len (s_100 hS) (by decide) (by rw [List.length_replicate]),
   fun _ _ _ _ _ hi => z_gia (s_100 hS) (by omega) (z_rpl hi),
   fun _ _ _ _ => z_len (s_101 hS) (by decide) (by rw [List.length_replicate]),
   fun _ _ _ _ _ hi => z_gia (s_101 hS) (by omega) (z_rpl hi),
   fun _ _ _ _ => z_len (s_102 hS) (by decide) (by rw [List.length_replicate]),
   fun _ _ _ _ _ hi => z_gia (s_102 hS) (by omega) (z_rpl hi),
   fun _ _ _ _ => z_len (s_103 hS) (by decide) (by rw [List.length_replicate]),
   fun _ _ _ _ _ hi => z_gia (s_103 hS) (by omega) (z_rpl hi),
   fun _ _ _ _ => z_len (s_104 hS) (by decide) (by rw [List.length_replicate]),
   fun _ _ _ _ _ hi => z_gia (s_104 hS) (by omega) (z_rpl hi),
   fun _ _ _ _ => z_len (s_105 hS) (by decide) (by rw [List.length_replicate]),
   fun _ _ _ _ _ hi => z_gia (s_105 hS) (by omega) (z_rpl hi),
   fun _ _ _ _ => z_len (s_106 hS) (by decide) (by rw [List.length_replicate]),
   fun _ _ _ _ _ hi => z_gia (s_106 hS) (by omega) (z_rpl hi),
   fun _ _ _ _ => z_len (s_107 hS) (by decide) (by rw [List.length_replicate]),
   fun _ _ _ _ _ hi => z_gia (s_107 hS) (by omega) (z_rpl hi),
   fun _ _ _ _ => z_len (s_108 hS) (by decide) (by rw [List.length_replicate]),
   fun _ _ _ _ _ hi => z_gia (s_108 hS) (by omega) (z_rpl hi),
   fun _ _ _ _ => z_len (s_109 hS) (by decide) (by rw [List.length_replicate]),
   fun _ _ _ _ _ hi => z_gia (s_109 hS) (by omega) (z_rpl hi),
   fun _ _ _ _ => z_len (s_110 hS) (by decide) (by rw [List.length_replicate]),
   fun _ _ _ _ _ hi => z_gia (s_110 hS) (by omega) (z_rpl hi),
   fun _ _ _ _ => z_len (s_111 hS) (by decide) (by rw [List.length_replicate]),
   fun _ _ _ _ _ hi => z_gia (s_111 hS) (by omega) (z_rpl hi),
   fun _ _ _ _ => z_len (s_112 hS) (by decide) (by rw [List.length_replicate]),
   fun _ _ _ _ _ hi => z_gia (s_112 hS) (by omega) (z_rpl hi),
   fun _ _ _ _ => z_len (s_113 hS) (by decide) (by rw [List.length_replicate]),
   fun _ _ _ _ _ hi => z_gia (s_113 hS) (by omega) (z_rpl hi),
   fun _ _ _ _ => z_len (s_114 hS) (by decide) (by rw [List.length_replicate]),
   fun _ _ _ _ _ hi => z_gia (s_114 hS) (by omega) (z_rpl hi),
   fun _ _ _ _ => z_len (s_115 hS) (by decide) (by rw [List.length_replicate]),
   fun _ _ _ _ _ hi => z_gia (s_115 hS) (by omega) (z_rpl hi),
   fun _ _ _ _ => z_len (s_116 hS) (by decide) (by rw [List.length_replicate]),
   fun _ _ _ _ _ hi => z_gia (s_116 hS) (by omega) (z_rpl hi),
   fun _ _ _ _ => z_len (s_117 hS) (by decide) (by rw [List.length_replicate]),
   fun _ _ _ _ _ hi => z_gia (s_117 hS) (by omega) (z_rpl hi),
   fun _ _ _ _ => z_len (s_118 hS) (by decide) (by rw [List.length_replicate]),
   fun _ _ _ _ _ hi => z_gia (s_118 hS) (by omega) (z_rpl hi),
   fun _ _ _ _ => z_len (s_119 hS) (by decide) (by rw [List.length_replicate]),
   fun _ _ _ _ _ hi => z_gia (s_119 hS) (by omega) (z_rpl hi),
   fun _ _ _ _ => z_len (s_120 hS) (by decide) (by rw [List.length_replicate]),
   fun _ _ _ _ _ hi => z_gia (s_120 hS) (by omega) (z_rpl hi),
   fun _ _ _ _ => z_len (s_121 hS) (by decide) (by rw [List.length_replicate]),
   fun _ _ _ _ _ hi => z_gia (s_121 hS) (by omega) (z_rpl hi),
   fun _ _ _ _ => z_len (s_122 hS) (by decide) (by rw [List.length_replicate]),
   fun _ _ _ _ _ hi => z_gia (s_122 hS) (by omega) (z_rpl hi),
   fun _ _ _ _ => z_len (s_123 hS) (by decide) (by rw [List.length_replicate]),
   fun _ _ _ _ _ hi => z_gia (s_123 hS) (by omega) (z_rpl hi),
   fun _ _ _ _ => z_len (s_124 hS) (by decide) (by rw [List.length_replicate]),
   fun _ _ _ _ _ hi => z_gia (s_124 hS) (by omega) (z_rpl hi),
   fun _ _ _ _ => z_len (s_125 hS) (by decide) (by rw [List.length_replicate]),
   fun _ _ _ _ _ hi => z_gia (s_125 hS) (by omega) (z_rpl hi),
   fun _ _ _ _ => z_len (s_126 hS) (by decide) (by rw [List.length_replicate]),
   fun _ _ _ _ _ hi => z_gia (s_126 hS) (by omega) (z_rpl hi),
   fun _ _ _ _ => z_len (s_127 hS) (by decide) (by rw [List.length_replicate]),
   fun _ _ _ _ _ hi => z_gia (s_127 hS) (by omega) (z_rpl hi),
   fun _ _ _ _ => z_len (s_128 hS) (by decide) (by rw [List.length_replicate]),
   fun _ _ _ _ _ hi => z_gia (s_128 hS) (by omega) (z_rpl hi),
   fun _ _ _ _ => z_len (s_129 hS) (by decide) (by rw [List.length_replicate]),
   fun _ _ _ _ _ hi => z_gla (s_129 hS) (by omega) (z_rpl hi)⟩
theorem z_Mw {S : z_SH} (hS : z_St S) :
    (∀ I J P n v, q_sf (z_h S I J P n) 12 83 0 (.int v) = some (z_h S (z_up I 83 0 v) J P n)) ∧
    (∀ I J P n v, q_sf (z_h S I J P n) 12 83 16 (.int v) = some (z_h S (z_up I 83 16 v) J P n)) ∧
    (∀ I J P n v, q_sf (z_h S I J P n) 12 83 18 (.int v) = some (z_h S (z_up I 83 18 v) J P n)) ∧
    (∀ I J P n v, q_sf (z_h S I J P n) 12 83 19 (.int v) = some (z_h S (z_up I 83 19 v) J P n)) ∧
    (∀ I J P n v, q_sf (z_h S I J P n) 12 83 20 (.int v) = some (z_h S (z_up I 83 20 v) J P n)) ∧
    (∀ I J P n v, q_sf (z_h S I J P n) 12 83 21 (.int v) = some (z_h S (z_up I 83 21 v) J P n)) ∧
    (∀ I J P n v, q_sf (z_h S I J P n) 12 83 22 (.long v) = some (z_h S I (z_uj J 83 22 v) P n)) ∧
    (∀ I J P n v, q_sf (z_h S I J P n) 12 83 23 (.int v) = some (z_h S (z_up I 83 23 v) J P n)) ∧
    (∀ I J P n v, q_sf (z_h S I J P n) 12 83 24 (.int v) = some (z_h S (z_up I 83 24 v) J P n)) ∧
    (∀ I J P n v, q_sf (z_h S I J P n) 12 83 25 (.long v) = some (z_h S I (z_uj J 83 25 v) P n)) ∧
    (∀ I J P n v, q_sf (z_h S I J P n) 12 83 26 (.long v) = some (z_h S I (z_uj J 83 26 v) P n)) ∧
    (∀ I J P n v, q_sf (z_h S I J P n) 12 83 28 (.int v) = some (z_h S (z_up I 83 28 v) J P n)) ∧
    (∀ I J P n v, q_sf (z_h S I J P n) 12 83 29 (.int v) = some (z_h S (z_up I 83 29 v) J P n)) ∧
    (∀ I J P n v, q_sf (z_h S I J P n) 12 83 32 (.int v) = some (z_h S (z_up I 83 32 v) J P n)) ∧
    (∀ I J P n v, q_sf (z_h S I J P n) 12 83 34 (.long v) = some (z_h S I (z_uj J 83 34 v) P n)) ∧
    (∀ I J P n v, q_sf (z_h S I J P n) 12 83 39 (.int v) = some (z_h S (z_up I 83 39 v) J P n)) ∧
    (∀ I J P n v, q_sf (z_h S I J P n) 12 83 52 (.long v) = some (z_h S I (z_uj J 83 52 v) P n)) ∧
    (∀ I J P n v, q_sf (z_h S I J P n) 12 83 53 (.int v) = some (z_h S (z_up I 83 53 v) J P n)) ∧
    (∀ I J P n v, q_sf (z_h S I J P n) 12 83 54 (.int v) = some (z_h S (z_up I 83 54 v) J P n)) ∧
    (∀ I J P n v, q_sf (z_h S I J P n) 12 83 58 (.int v) = some (z_h S (z_up I 83 58 v) J P n)) ∧
    (∀ I J P n i v, i < 6 → q_sa (z_h S I J P n) 20 84 (z_n i) (.int v) = some (z_h S (z_up I 84 i v) J P n)) ∧
    (∀ I J P n i v, i < 24 → q_sa (z_h S I J P n) 22 85 (z_n i) (.int v) = some (z_h S (z_up I 85 i v) J P n)) ∧
    (∀ I J P n i v, i < 24 → q_sa (z_h S I J P n) 22 86 (z_n i) (.int v) = some (z_h S (z_up I 86 i v) J P n)) ∧
    (∀ I J P n i v, i < 24 → q_sa (z_h S I J P n) 20 87 (z_n i) (.int v) = some (z_h S (z_up I 87 i v) J P n)) ∧
    (∀ I J P n i v, i < 24 → q_sa (z_h S I J P n) 20 88 (z_n i) (.int v) = some (z_h S (z_up I 88 i v) J P n)) ∧
    (∀ I J P n i v, i < 24 → q_sa (z_h S I J P n) 20 89 (z_n i) (.int v) = some (z_h S (z_up I 89 i v) J P n)) ∧
    (∀ I J P n i v, i < 25 → q_sa (z_h S I J P n) 20 90 (z_n i) (.int v) = some (z_h S (z_up I 90 i v) J P n)) ∧
    (∀ I J P n i v, i < 300 → q_sa (z_h S I J P n) 20 91 (z_n i) (.int v) = some (z_h S (z_up I 91 i v) J P n)) ∧
    (∀ I J P n i v, i < 300 → q_sa (z_h S I J P n) 20 92 (z_n i) (.int v) = some (z_h S (z_up I 92 i v) J P n)) ∧
    (∀ I J P n i v, i < 300 → q_sa (z_h S I J P n) 20 93 (z_n i) (.int v) = some (z_h S (z_up I 93 i v) J P n)) ∧
    (∀ I J P n i v, i < 300 → q_sa (z_h S I J P n) 20 94 (z_n i) (.int v) = some (z_h S (z_up I 94 i v) J P n)) ∧
    (∀ I J P n i v, i < 300 → q_sa (z_h S I J P n) 20 95 (z_n i) (.int v) = some (z_h S (z_up I 95 i v) J P n)) ∧
    (∀ I J P n i v, i < 300 → q_sa (z_h S I J P n) 21 96 (z_n i) (.long v) = some (z_h S I (z_uj J 96 i v) P n)) ∧
    (∀ I J P n i v, i < 300 → q_sa (z_h S I J P n) 21 97 (z_n i) (.long v) = some (z_h S I (z_uj J 97 i v) P n)) ∧
    (∀ I J P n i v, i < 300 → q_sa (z_h S I J P n) 21 98 (z_n i) (.long v) = some (z_h S I (z_uj J 98 i v) P n)) ∧
    (∀ I J P n i v, i < 1000 → q_sa (z_h S I J P n) 20 99 (z_n i) (.int v) = some (z_h S (z_up I 99 i v) J P n)) ∧
    (∀ I J P n i v, i < 24 → q_sa (z_h S I J P n) 20 100 (z_n i) (.int v) = some (z_h S (z_up I 100 i v) J P n)) ∧
    (∀ I J P n i v, i < 68 → q_sa (z_h S I J P n) 20 101 (z_n i) (.int v) = some (z_h S (z_up I 101 i v) J P n)) ∧
    (∀ I J P n i v, i < 17 → q_sa (z_h S I J P n) 20 102 (z_n i) (.int v) = some (z_h S (z_up I 102 i v) J P n)) ∧
    (∀ I J P n i v, i < 4 → q_sa (z_h S I J P n) 20 103 (z_n i) (.int v) = some (z_h S (z_up I 103 i v) J P n)) ∧
    (∀ I J P n i v, i < 5 → q_sa (z_h S I J P n) 20 104 (z_n i) (.int v) = some (z_h S (z_up I 104 i v) J P n)) ∧
    (∀ I J P n i v, i < 30 → q_sa (z_h S I J P n) 20 105 (z_n i) (.int v) = some (z_h S (z_up I 105 i v) J P n)) ∧
    (∀ I J P n i v, i < 30 → q_sa (z_h S I J P n) 20 106 (z_n i) (.int v) = some (z_h S (z_up I 106 i v) J P n)) ∧
    (∀ I J P n i v, i < 5000 → q_sa (z_h S I J P n) 20 107 (z_n i) (.int v) = some (z_h S (z_up I 107 i v) J P n)) ∧
    (∀ I J P n i v, i < 7 → q_sa (z_h S I J P n) 20 108 (z_n i) (.int v) = some (z_h S (z_up I 108 i v) J P n)) ∧
    (∀ I J P n i v, i < 7 → q_sa (z_h S I J P n) 22 109 (z_n i) (.int v) = some (z_h S (z_up I 109 i v) J P n)) ∧
    (∀ I J P n i v, i < 7 → q_sa (z_h S I J P n) 20 110 (z_n i) (.int v) = some (z_h S (z_up I 110 i v) J P n)) ∧
    (∀ I J P n i v, i < 7 → q_sa (z_h S I J P n) 20 111 (z_n i) (.int v) = some (z_h S (z_up I 111 i v) J P n)) ∧
    (∀ I J P n i v, i < 7 → q_sa (z_h S I J P n) 20 112 (z_n i) (.int v) = some (z_h S (z_up I 112 i v) J P n)) ∧
    (∀ I J P n i v, i < 7 → q_sa (z_h S I J P n) 20 113 (z_n i) (.int v) = some (z_h S (z_up I 113 i v) J P n)) ∧
    (∀ I J P n i v, i < 7 → q_sa (z_h S I J P n) 20 114 (z_n i) (.int v) = some (z_h S (z_up I 114 i v) J P n)) ∧
    (∀ I J P n i v, i < 7 → q_sa (z_h S I J P n) 20 115 (z_n i) (.int v) = some (z_h S (z_up I 115 i v) J P n)) ∧
    (∀ I J P n i v, i < 7 → q_sa (z_h S I J P n) 20 116 (z_n i) (.int v) = some (z_h S (z_up I 116 i v) J P n)) ∧
    (∀ I J P n i v, i < 7 → q_sa (z_h S I J P n) 20 117 (z_n i) (.int v) = some (z_h S (z_up I 117 i v) J P n)) ∧
    (∀ I J P n i v, i < 7 → q_sa (z_h S I J P n) 20 118 (z_n i) (.int v) = some (z_h S (z_up I 118 i v) J P n)) ∧
    (∀ I J P n i v, i < 20 → q_sa (z_h S I J P n) 20 119 (z_n i) (.int v) = some (z_h S (z_up I 119 i v) J P n)) ∧
    (∀ I J P n i v, i < 6 → q_sa (z_h S I J P n) 20 120 (z_n i) (.int v) = some (z_h S (z_up I 120 i v) J P n)) ∧
    (∀ I J P n i v, i < 6 → q_sa (z_h S I J P n) 22 121 (z_n i) (.int v) = some (z_h S (z_up I 121 i v) J P n)) ∧
    (∀ I J P n i v, i < 6 → q_sa (z_h S I J P n) 22 122 (z_n i) (.int v) = some (z_h S (z_up I 122 i v) J P n)) ∧
    (∀ I J P n i v, i < 225 → q_sa (z_h S I J P n) 20 123 (z_n i) (.int v) = some (z_h S (z_up I 123 i v) J P n)) ∧
    (∀ I J P n i v, i < 225 → q_sa (z_h S I J P n) 20 124 (z_n i) (.int v) = some (z_h S (z_up I 124 i v) J P n)) ∧
    (∀ I J P n i v, i < 4 → q_sa (z_h S I J P n) 22 125 (z_n i) (.int v) = some (z_h S (z_up I 125 i v) J P n)) ∧
    (∀ I J P n i v, i < 24 → q_sa (z_h S I J P n) 20 126 (z_n i) (.int v) = some (z_h S (z_up I 126 i v) J P n)) ∧
    (∀ I J P n i v, i < 576 → q_sa (z_h S I J P n) 20 127 (z_n i) (.int v) = some (z_h S (z_up I 127 i v) J P n)) ∧
    (∀ I J P n i v, i < 5760 → q_sa (z_h S I J P n) 20 128 (z_n i) (.int v) = some (z_h S (z_up I 128 i v) J P n)) ∧
    (∀ I J P n i v, i < 3456 → q_sa (z_h S I J P n) 21 129 (z_n i) (.long v) = some (z_h S I (z_uj J 129 i v) P n)) :=
  ⟨fun _ _ _ _ _ => z_sfi (s_83 hS) (by decide) rfl,
   fun _ _ _ _ _ => z_sfi (s_83 hS) (by decide) rfl,
   fun _ _ _ _ _ => z_sfi (s_83 hS) (by decide) rfl,
   fun _ _ _ _ _ => z_sfi (s_83 hS) (by decide) rfl,
   fun _ _ _ _ _ => z_sfi (s_83 hS) (by decide) rfl,
   fun _ _ _ _ _ => z_sfi (s_83 hS) (by decide) rfl,
   fun _ _ _ _ _ => z_sfl (s_83 hS) (by decide) rfl,
   fun _ _ _ _ _ => z_sfi (s_83 hS) (by decide) rfl,
   fun _ _ _ _ _ => z_sfi (s_83 hS) (by decide) rfl,
   fun _ _ _ _ _ => z_sfl (s_83 hS) (by decide) rfl,
   fun _ _ _ _ _ => z_sfl (s_83 hS) (by decide) rfl,
   fun _ _ _ _ _ => z_sfi (s_83 hS) (by decide) rfl,
   fun _ _ _ _ _ => z_sfi (s_83 hS) (by decide) rfl,
   fun _ _ _ _ _ => z_sfi (s_83 hS) (by decide) rfl,
   fun _ _ _ _ _ => z_sfl (s_83 hS) (by decide) rfl,
   fun _ _ _ _ _ => z_sfi (s_83 hS) (by decide) rfl,
   fun _ _ _ _ _ => z_sfl (s_83 hS) (by decide) rfl,
   fun _ _ _ _ _ => z_sfi (s_83 hS) (by decide) rfl,
   fun _ _ _ _ _ => z_sfi (s_83 hS) (by decide) rfl,
   fun _ _ _ _ _ => z_sfi (s_83 hS) (by decide) rfl,
   fun _ _ _ _ _ _ hi => z_sai (s_84 hS) (by decide) (by omega) (z_rpl hi),
   fun _ _ _ _ _ _ hi => z_sai (s_85 hS) (by decide) (by omega) (z_rpl hi),
   fun _ _ _ _ _ _ hi => z_sai (s_86 hS) (by decide) (by omega) (z_rpl hi),
   fun _ _ _ _ _ _ hi => z_sai (s_87 hS) (by decide) (by omega) (z_rpl hi),
   fun _ _ _ _ _ _ hi => z_sai (s_88 hS) (by decide) (by omega) (z_rpl hi),
   fun _ _ _ _ _ _ hi => z_sai (s_89 hS) (by decide) (by omega) (z_rpl hi),
   fun _ _ _ _ _ _ hi => z_sai (s_90 hS) (by decide) (by omega) (z_rpl hi),
   fun _ _ _ _ _ _ hi => z_sai (s_91 hS) (by decide) (by omega) (z_rpl hi),
   fun _ _ _ _ _ _ hi => z_sai (s_92 hS) (by decide) (by omega) (z_rpl hi),
   fun _ _ _ _ _ _ hi => z_sai (s_93 hS) (by decide) (by omega) (z_rpl hi),
   fun _ _ _ _ _ _ hi => z_sai (s_94 hS) (by decide) (by omega) (z_rpl hi),
   fun _ _ _ _ _ _ hi => z_sai (s_95 hS) (by decide) (by omega) (z_rpl hi),
   fun _ _ _ _ _ _ hi => z_sal (s_96 hS) (by decide) (by omega) (z_rpl hi),
   fun _ _ _ _ _ _ hi => z_sal (s_97 hS) (by decide) (by omega) (z_rpl hi),
   fun _ _ _ _ _ _ hi => z_sal (s_98 hS) (by decide) (by omega) (z_rpl hi),
   fun _ _ _ _ _ _ hi => z_sai (s_99 hS) (by decide) (by omega) (z_rpl hi),
   fun _ _ _ _ _ _ hi => z_sai (s_100 hS) (by decide) (by omega) (z_rpl hi),
   fun _ _ _ _ _ _ hi => z_sai (s_101 hS) (by decide) (by omega) (z_rpl hi),
   fun _ _ _ _ _ _ hi => z_sai (s_102 hS) (by decide) (by omega) (z_rpl hi),
   fun _ _ _ _ _ _ hi => z_sai (s_103 hS) (by decide) (by omega) (z_rpl hi),
   fun _ _ _ _ _ _ hi => z_sai (s_104 hS) (by decide) (by omega) (z_rpl hi),
   fun _ _ _ _ _ _ hi => z_sai (s_105 hS) (by decide) (by omega) (z_rpl hi),
   fun _ _ _ _ _ _ hi => z_sai (s_106 hS) (by decide) (by omega) (z_rpl hi),
   fun _ _ _ _ _ _ hi => z_sai (s_107 hS) (by decide) (by omega) (z_rpl hi),
   fun _ _ _ _ _ _ hi => z_sai (s_108 hS) (by decide) (by omega) (z_rpl hi),
   fun _ _ _ _ _ _ hi => z_sai (s_109 hS) (by decide) (by omega) (z_rpl hi),
   fun _ _ _ _ _ _ hi => z_sai (s_110 hS) (by decide) (by omega) (z_rpl hi),
   fun _ _ _ _ _ _ hi => z_sai (s_111 hS) (by decide) (by omega) (z_rpl hi),
   fun _ _ _ _ _ _ hi => z_sai (s_112 hS) (by decide) (by omega) (z_rpl hi),
   fun _ _ _ _ _ _ hi => z_sai (s_113 hS) (by decide) (by omega) (z_rpl hi),
   fun _ _ _ _ _ _ hi => z_sai (s_114 hS) (by decide) (by omega) (z_rpl hi),
   fun _ _ _ _ _ _ hi => z_sai (s_115 hS) (by decide) (by omega) (z_rpl hi),
   fun _ _ _ _ _ _ hi => z_sai (s_116 hS) (by decide) (by omega) (z_rpl hi),
   fun _ _ _ _ _ _ hi => z_sai (s_117 hS) (by decide) (by omega) (z_rpl hi),
   fun _ _ _ _ _ _ hi => z_sai (s_118 hS) (by decide) (by omega) (z_rpl hi),
   fun _ _ _ _ _ _ hi => z_sai (s_119 hS) (by decide) (by omega) (z_rpl hi),
   fun _ _ _ _ _ _ hi => z_sai (s_120 hS) (by decide) (by omega) (z_rpl hi),
   fun _ _ _ _ _ _ hi => z_sai (s_121 hS) (by decide) (by omega) (z_rpl hi),
   fun _ _ _ _ _ _ hi => z_sai (s_122 hS) (by decide) (by omega) (z_rpl hi),
   fun _ _ _ _ _ _ hi => z_sai (s_123 hS) (by decide) (by omega) (z_rpl hi),
   fun _ _ _ _ _ _ hi => z_sai (s_124 hS) (by decide) (by omega) (z_rpl hi),
   fun _ _ _ _ _ _ hi => z_sai (s_125 hS) (by decide) (by omega) (z_rpl hi),
   fun _ _ _ _ _ _ hi => z_sai (s_126 hS) (by decide) (by omega) (z_rpl hi),
   fun _ _ _ _ _ _ hi => z_sai (s_127 hS) (by decide) (by omega) (z_rpl hi),
   fun _ _ _ _ _ _ hi => z_sai (s_128 hS) (by decide) (by omega) (z_rpl hi),
   fun _ _ _ _ _ _ hi => z_sal (s_129 hS) (by decide) (by omega) (z_rpl hi)⟩
theorem z_Tar {S : z_SH} {P : z_MP} (hS : z_St S) (hP : z_Pt P) :
    (∀ I J P n, q_ob (z_h S I J P n) 1 9 = some (z_vs I J P 9 [2, 0, 0, 0, 0, 1])) ∧
    (∀ I J n, q_gr (q_gf (z_h S I J P n) 1 9 0) = some 10) ∧
    (∀ I J P n, q_gi (q_gf (z_h S I J P n) 1 9 1) = some (I 9 1)) ∧
    (∀ I J P n, q_gi (q_gf (z_h S I J P n) 1 9 2) = some (I 9 2)) ∧
    (∀ I J P n, q_gi (q_gf (z_h S I J P n) 1 9 3) = some (I 9 3)) ∧
    (∀ I J P n, q_gi (q_gf (z_h S I J P n) 1 9 4) = some (I 9 4)) ∧
    (∀ I J P n, q_gl' (q_gf (z_h S I J P n) 1 9 5) = some (J 9 5)) ∧
    (∀ I J P n, q_len' (z_h S I J P n) 10 = some (z_n 1000)) ∧
    (∀ I J P n i, i < 1000 → q_gi (q_ga (z_h S I J P n) 23 10 (z_n i)) = some (I 10 i)) :=
  ⟨fun _ _ _ _ => z_ob (s_9 hS),
   fun _ _ _ => z_gr (s_9 hS) rfl (p_9_0 hP),
   fun _ _ _ _ => z_gi (s_9 hS) rfl,
   fun _ _ _ _ => z_gi (s_9 hS) rfl,
   fun _ _ _ _ => z_gi (s_9 hS) rfl,
   fun _ _ _ _ => z_gi (s_9 hS) rfl,
   fun _ _ _ _ => z_gl (s_9 hS) rfl,
   fun _ _ _ _ => z_len (s_10 hS) (by decide) (by rw [List.length_replicate]),
   fun _ _ _ _ _ hi => z_gia (s_10 hS) (by omega) (z_rpl hi)⟩
theorem z_Taw {S : z_SH} (hS : z_St S) :
    (∀ I J P n v, q_sf (z_h S I J P n) 1 9 1 (.int v) = some (z_h S (z_up I 9 1 v) J P n)) ∧
    (∀ I J P n v, q_sf (z_h S I J P n) 1 9 2 (.int v) = some (z_h S (z_up I 9 2 v) J P n)) ∧
    (∀ I J P n v, q_sf (z_h S I J P n) 1 9 3 (.int v) = some (z_h S (z_up I 9 3 v) J P n)) ∧
    (∀ I J P n v, q_sf (z_h S I J P n) 1 9 4 (.int v) = some (z_h S (z_up I 9 4 v) J P n)) ∧
    (∀ I J P n v, q_sf (z_h S I J P n) 1 9 5 (.long v) = some (z_h S I (z_uj J 9 5 v) P n)) ∧
    (∀ I J P n i v, i < 1000 → q_sa (z_h S I J P n) 23 10 (z_n i) (.int v) = some (z_h S (z_up I 10 i v) J P n)) :=
  ⟨fun _ _ _ _ _ => z_sfi (s_9 hS) (by decide) rfl,
   fun _ _ _ _ _ => z_sfi (s_9 hS) (by decide) rfl,
   fun _ _ _ _ _ => z_sfi (s_9 hS) (by decide) rfl,
   fun _ _ _ _ _ => z_sfi (s_9 hS) (by decide) rfl,
   fun _ _ _ _ _ => z_sfl (s_9 hS) (by decide) rfl,
   fun _ _ _ _ _ _ hi => z_sai (s_10 hS) (by decide) (by omega) (z_rpl hi)⟩
theorem z_Shr {S : z_SH} {P : z_MP} (hS : z_St S) (hP : z_Pt P) :
    (∀ I J P n, q_ob (z_h S I J P n) 2 13 = some (z_vs I J P 13 [2, 2, 2, 2, 2, 2])) ∧
    (∀ I J n, q_gr (q_gf (z_h S I J P n) 2 13 0) = some 14) ∧
    (∀ I J n, q_gr (q_gf (z_h S I J P n) 2 13 1) = some 15) ∧
    (∀ I J n, q_gr (q_gf (z_h S I J P n) 2 13 2) = some 16) ∧
    (∀ I J n, q_gr (q_gf (z_h S I J P n) 2 13 3) = some 17) ∧
    (∀ I J n, q_gr (q_gf (z_h S I J P n) 2 13 4) = some 18) ∧
    (∀ I J n, q_gr (q_gf (z_h S I J P n) 2 13 5) = some 19) ∧
    (∀ I J P n, q_len' (z_h S I J P n) 14 = some (z_n 24)) ∧
    (∀ I J P n i, i < 24 → q_gi (q_ga (z_h S I J P n) 22 14 (z_n i)) = some (I 14 i)) ∧
    (∀ I J P n, q_len' (z_h S I J P n) 15 = some (z_n 24)) ∧
    (∀ I J P n i, i < 24 → q_gi (q_ga (z_h S I J P n) 20 15 (z_n i)) = some (I 15 i)) ∧
    (∀ I J P n, q_len' (z_h S I J P n) 16 = some (z_n 24)) ∧
    (∀ I J P n i, i < 24 → q_gi (q_ga (z_h S I J P n) 20 16 (z_n i)) = some (I 16 i)) ∧
    (∀ I J P n, q_len' (z_h S I J P n) 17 = some (z_n 24)) ∧
    (∀ I J P n i, i < 24 → q_gi (q_ga (z_h S I J P n) 20 17 (z_n i)) = some (I 17 i)) ∧
    (∀ I J P n, q_len' (z_h S I J P n) 18 = some (z_n 24)) ∧
    (∀ I J P n i, i < 24 → q_go (q_ga (z_h S I J P n) 25 18 (z_n i)) = some (P 18 i)) ∧
    (∀ I J P n, q_len' (z_h S I J P n) 19 = some (z_n 6)) ∧
    (∀ I J P n i, i < 6 → q_gi (q_ga (z_h S I J P n) 20 19 (z_n i)) = some (I 19 i)) :=
  ⟨fun _ _ _ _ => z_ob (s_13 hS),
   fun _ _ _ => z_gr (s_13 hS) rfl (p_13_0 hP),
   fun _ _ _ => z_gr (s_13 hS) rfl (p_13_1 hP),
   fun _ _ _ => z_gr (s_13 hS) rfl (p_13_2 hP),
   fun _ _ _ => z_gr (s_13 hS) rfl (p_13_3 hP),
   fun _ _ _ => z_gr (s_13 hS) rfl (p_13_4 hP),
   fun _ _ _ => z_gr (s_13 hS) rfl (p_13_5 hP),
   fun _ _ _ _ => z_len (s_14 hS) (by decide) (by rw [List.length_replicate]),
   fun _ _ _ _ _ hi => z_gia (s_14 hS) (by omega) (z_rpl hi),
   fun _ _ _ _ => z_len (s_15 hS) (by decide) (by rw [List.length_replicate]),
   fun _ _ _ _ _ hi => z_gia (s_15 hS) (by omega) (z_rpl hi),
   fun _ _ _ _ => z_len (s_16 hS) (by decide) (by rw [List.length_replicate]),
   fun _ _ _ _ _ hi => z_gia (s_16 hS) (by omega) (z_rpl hi),
   fun _ _ _ _ => z_len (s_17 hS) (by decide) (by rw [List.length_replicate]),
   fun _ _ _ _ _ hi => z_gia (s_17 hS) (by omega) (z_rpl hi),
   fun _ _ _ _ => z_len (s_18 hS) (by decide) (by rw [List.length_replicate]),
   fun _ _ _ _ _ hi => z_goa (s_18 hS) (by omega) (z_rpl hi),
   fun _ _ _ _ => z_len (s_19 hS) (by decide) (by rw [List.length_replicate]),
   fun _ _ _ _ _ hi => z_gia (s_19 hS) (by omega) (z_rpl hi)⟩
theorem z_Shw {S : z_SH} (hS : z_St S) :
    (∀ I J P n i v, i < 24 → q_sa (z_h S I J P n) 22 14 (z_n i) (.int v) = some (z_h S (z_up I 14 i v) J P n)) ∧
    (∀ I J P n i v, i < 24 → q_sa (z_h S I J P n) 20 15 (z_n i) (.int v) = some (z_h S (z_up I 15 i v) J P n)) ∧
    (∀ I J P n i v, i < 24 → q_sa (z_h S I J P n) 20 16 (z_n i) (.int v) = some (z_h S (z_up I 16 i v) J P n)) ∧
    (∀ I J P n i v, i < 24 → q_sa (z_h S I J P n) 20 17 (z_n i) (.int v) = some (z_h S (z_up I 17 i v) J P n)) ∧
    (∀ I J P n i v, i < 6 → q_sa (z_h S I J P n) 20 19 (z_n i) (.int v) = some (z_h S (z_up I 19 i v) J P n)) :=
  ⟨fun _ _ _ _ _ _ hi => z_sai (s_14 hS) (by decide) (by omega) (z_rpl hi),
   fun _ _ _ _ _ _ hi => z_sai (s_15 hS) (by decide) (by omega) (z_rpl hi),
   fun _ _ _ _ _ _ hi => z_sai (s_16 hS) (by decide) (by omega) (z_rpl hi),
   fun _ _ _ _ _ _ hi => z_sai (s_17 hS) (by decide) (by omega) (z_rpl hi),
   fun _ _ _ _ _ _ hi => z_sai (s_19 hS) (by decide) (by omega) (z_rpl hi)⟩
theorem z_Clr {S : z_SH} {P : z_MP} (hS : z_St S) (hP : z_Pt P) :
    (∀ I J P n, q_ob (z_h S I J P n) 0 8 = some (z_vs I J P 8 [2, 2, 2, 2, 2, 2, 2, 2, 2, 2, 2, 2, 2])) ∧
    (∀ I J P n, q_ob (z_h S I J P n) 13 4 = some (z_vs I J P 4 [2, 0])) ∧
    (∀ I J n, q_gr (q_gf (z_h S I J P n) 0 8 0) = some 9) ∧
    (∀ I J n, q_gr (q_gf (z_h S I J P n) 0 8 1) = some 11) ∧
    (∀ I J n, q_gr (q_gf (z_h S I J P n) 0 8 2) = some 12) ∧
    (∀ I J n, q_gr (q_gf (z_h S I J P n) 0 8 3) = some 13) ∧
    (∀ I J n, q_gr (q_gf (z_h S I J P n) 0 8 4) = some 20) ∧
    (∀ I J n, q_gr (q_gf (z_h S I J P n) 0 8 5) = some 21) ∧
    (∀ I J n, q_gr (q_gf (z_h S I J P n) 0 8 6) = some 22) ∧
    (∀ I J n, q_gr (q_gf (z_h S I J P n) 0 8 7) = some 27) ∧
    (∀ I J n, q_gr (q_gf (z_h S I J P n) 0 8 8) = some 34) ∧
    (∀ I J n, q_gr (q_gf (z_h S I J P n) 0 8 9) = some 35) ∧
    (∀ I J n, q_gr (q_gf (z_h S I J P n) 0 8 10) = some 36) ∧
    (∀ I J n, q_gr (q_gf (z_h S I J P n) 0 8 11) = some 41) ∧
    (∀ I J n, q_gr (q_gf (z_h S I J P n) 0 8 12) = some 42) ∧
    (∀ I J P n, q_len' (z_h S I J P n) 11 = some (z_n 10)) ∧
    (∀ I J P n i, i < 10 → q_gl' (q_ga (z_h S I J P n) 21 11 (z_n i)) = some (J 11 i)) ∧
    (∀ I J P n, q_len' (z_h S I J P n) 12 = some (z_n 18)) ∧
    (∀ I J P n i, i < 18 → q_gl' (q_ga (z_h S I J P n) 21 12 (z_n i)) = some (J 12 i)) ∧
    (∀ I J P n, q_len' (z_h S I J P n) 1 = some (z_n 8)) ∧
    (∀ I J P n i, i < 8 → q_gi (q_ga (z_h S I J P n) 20 1 (z_n i)) = some (I 1 i)) ∧
    (∀ I J n, q_gr (q_gf (z_h S I J P n) 13 4 0) = some 7) ∧
    (∀ I J P n, q_gi (q_gf (z_h S I J P n) 13 4 1) = some (I 4 1)) ∧
    (∀ I J P n, q_len' (z_h S I J P n) 7 = some (z_n 8)) ∧
    (∀ I J P n i, i < 8 → q_gi (q_ga (z_h S I J P n) 24 7 (z_n i)) = some (I 7 i)) ∧
    (∀ I J P n, q_len' (z_h S I J P n) 20 = some (z_n 4)) ∧
    (∀ I J n, q_gr (q_ga (z_h S I J P n) 26 20 (z_n 0)) = some 43) ∧
    (∀ I J n, q_gr (q_ga (z_h S I J P n) 26 20 (z_n 1)) = some 50) ∧
    (∀ I J n, q_gr (q_ga (z_h S I J P n) 26 20 (z_n 2)) = some 57) ∧
    (∀ I J n, q_gr (q_ga (z_h S I J P n) 26 20 (z_n 3)) = some 64) ∧
    (∀ I J P n, q_len' (z_h S I J P n) 21 = some (z_n 4)) ∧
    (∀ I J P n i, i < 4 → q_gi (q_ga (z_h S I J P n) 22 21 (z_n i)) = some (I 21 i)) :=
  ⟨fun _ _ _ _ => z_ob (s_8 hS),
   fun _ _ _ _ => z_ob (s_4 hS),
   fun _ _ _ => z_gr (s_8 hS) rfl (p_8_0 hP),
   fun _ _ _ => z_gr (s_8 hS) rfl (p_8_1 hP),
   fun _ _ _ => z_gr (s_8 hS) rfl (p_8_2 hP),
   fun _ _ _ => z_gr (s_8 hS) rfl (p_8_3 hP),
   fun _ _ _ => z_gr (s_8 hS) rfl (p_8_4 hP),
   fun _ _ _ => z_gr (s_8 hS) rfl (p_8_5 hP),
   fun _ _ _ => z_gr (s_8 hS) rfl (p_8_6 hP),
   fun _ _ _ => z_gr (s_8 hS) rfl (p_8_7 hP),
   fun _ _ _ => z_gr (s_8 hS) rfl (p_8_8 hP),
   fun _ _ _ => z_gr (s_8 hS) rfl (p_8_9 hP),
   fun _ _ _ => z_gr (s_8 hS) rfl (p_8_10 hP),
   fun _ _ _ => z_gr (s_8 hS) rfl (p_8_11 hP),
   fun _ _ _ => z_gr (s_8 hS) rfl (p_8_12 hP),
   fun _ _ _ _ => z_len (s_11 hS) (by decide) (by rw [List.length_replicate]),
   fun _ _ _ _ _ hi => z_gla (s_11 hS) (by omega) (z_rpl hi),
   fun _ _ _ _ => z_len (s_12 hS) (by decide) (by rw [List.length_replicate]),
   fun _ _ _ _ _ hi => z_gla (s_12 hS) (by omega) (z_rpl hi),
   fun _ _ _ _ => z_len (s_1 hS) (by decide) (by rw [List.length_replicate]),
   fun _ _ _ _ _ hi => z_gia (s_1 hS) (by omega) (z_rpl hi),
   fun _ _ _ => z_gr (s_4 hS) rfl (p_4_0 hP),
   fun _ _ _ _ => z_gi (s_4 hS) rfl,
   fun _ _ _ _ => z_len (s_7 hS) (by decide) (by rw [List.length_replicate]),
   fun _ _ _ _ _ hi => z_gia (s_7 hS) (by omega) (z_rpl hi),
   fun _ _ _ _ => z_len (s_20 hS) (by decide) (by rw [List.length_replicate]),
   fun _ _ _ => z_gra (s_20 hS) (by decide) rfl (p_20_0 hP),
   fun _ _ _ => z_gra (s_20 hS) (by decide) rfl (p_20_1 hP),
   fun _ _ _ => z_gra (s_20 hS) (by decide) rfl (p_20_2 hP),
   fun _ _ _ => z_gra (s_20 hS) (by decide) rfl (p_20_3 hP),
   fun _ _ _ _ => z_len (s_21 hS) (by decide) (by rw [List.length_replicate]),
   fun _ _ _ _ _ hi => z_gia (s_21 hS) (by omega) (z_rpl hi)⟩
theorem z_Clw {S : z_SH} (hS : z_St S) :
    (∀ I J P n i v, i < 10 → q_sa (z_h S I J P n) 21 11 (z_n i) (.long v) = some (z_h S I (z_uj J 11 i v) P n)) ∧
    (∀ I J P n i v, i < 18 → q_sa (z_h S I J P n) 21 12 (z_n i) (.long v) = some (z_h S I (z_uj J 12 i v) P n)) ∧
    (∀ I J P n i v, i < 4 → q_sa (z_h S I J P n) 22 21 (z_n i) (.int v) = some (z_h S (z_up I 21 i v) J P n)) :=
  ⟨fun _ _ _ _ _ _ hi => z_sal (s_11 hS) (by decide) (by omega) (z_rpl hi),
   fun _ _ _ _ _ _ hi => z_sal (s_12 hS) (by decide) (by omega) (z_rpl hi),
   fun _ _ _ _ _ _ hi => z_sai (s_21 hS) (by decide) (by omega) (z_rpl hi)⟩
theorem z_Hor {S : z_SH} {P : z_MP} (hS : z_St S) (hP : z_Pt P) :
    (∀ I J P n, q_ob (z_h S I J P n) 3 22 = some (z_vs I J P 22 [0, 2, 2, 2, 2])) ∧
    (∀ I J P n, q_gi (q_gf (z_h S I J P n) 3 22 0) = some (I 22 0)) ∧
    (∀ I J n, q_gr (q_gf (z_h S I J P n) 3 22 1) = some 23) ∧
    (∀ I J n, q_gr (q_gf (z_h S I J P n) 3 22 2) = some 24) ∧
    (∀ I J n, q_gr (q_gf (z_h S I J P n) 3 22 3) = some 25) ∧
    (∀ I J n, q_gr (q_gf (z_h S I J P n) 3 22 4) = some 26) ∧
    (∀ I J P n, q_len' (z_h S I J P n) 23 = some (z_n 24)) ∧
    (∀ I J P n i, i < 24 → q_gi (q_ga (z_h S I J P n) 20 23 (z_n i)) = some (I 23 i)) ∧
    (∀ I J P n, q_len' (z_h S I J P n) 24 = some (z_n 288)) ∧
    (∀ I J P n i, i < 288 → q_gi (q_ga (z_h S I J P n) 20 24 (z_n i)) = some (I 24 i)) ∧
    (∀ I J P n, q_len' (z_h S I J P n) 25 = some (z_n 288)) ∧
    (∀ I J P n i, i < 288 → q_gi (q_ga (z_h S I J P n) 20 25 (z_n i)) = some (I 25 i)) ∧
    (∀ I J P n, q_len' (z_h S I J P n) 26 = some (z_n 96)) ∧
    (∀ I J P n i, i < 96 → q_gi (q_ga (z_h S I J P n) 20 26 (z_n i)) = some (I 26 i)) :=
  ⟨fun _ _ _ _ => z_ob (s_22 hS),
   fun _ _ _ _ => z_gi (s_22 hS) rfl,
   fun _ _ _ => z_gr (s_22 hS) rfl (p_22_1 hP),
   fun _ _ _ => z_gr (s_22 hS) rfl (p_22_2 hP),
   fun _ _ _ => z_gr (s_22 hS) rfl (p_22_3 hP),
   fun _ _ _ => z_gr (s_22 hS) rfl (p_22_4 hP),
   fun _ _ _ _ => z_len (s_23 hS) (by decide) (by rw [List.length_replicate]),
   fun _ _ _ _ _ hi => z_gia (s_23 hS) (by omega) (z_rpl hi),
   fun _ _ _ _ => z_len (s_24 hS) (by decide) (by rw [List.length_replicate]),
   fun _ _ _ _ _ hi => z_gia (s_24 hS) (by omega) (z_rpl hi),
   fun _ _ _ _ => z_len (s_25 hS) (by decide) (by rw [List.length_replicate]),
   fun _ _ _ _ _ hi => z_gia (s_25 hS) (by omega) (z_rpl hi),
   fun _ _ _ _ => z_len (s_26 hS) (by decide) (by rw [List.length_replicate]),
   fun _ _ _ _ _ hi => z_gia (s_26 hS) (by omega) (z_rpl hi)⟩
theorem z_How {S : z_SH} (hS : z_St S) :
    (∀ I J P n v, q_sf (z_h S I J P n) 3 22 0 (.int v) = some (z_h S (z_up I 22 0 v) J P n)) ∧
    (∀ I J P n i v, i < 24 → q_sa (z_h S I J P n) 20 23 (z_n i) (.int v) = some (z_h S (z_up I 23 i v) J P n)) ∧
    (∀ I J P n i v, i < 288 → q_sa (z_h S I J P n) 20 24 (z_n i) (.int v) = some (z_h S (z_up I 24 i v) J P n)) ∧
    (∀ I J P n i v, i < 288 → q_sa (z_h S I J P n) 20 25 (z_n i) (.int v) = some (z_h S (z_up I 25 i v) J P n)) ∧
    (∀ I J P n i v, i < 96 → q_sa (z_h S I J P n) 20 26 (z_n i) (.int v) = some (z_h S (z_up I 26 i v) J P n)) :=
  ⟨fun _ _ _ _ _ => z_sfi (s_22 hS) (by decide) rfl,
   fun _ _ _ _ _ _ hi => z_sai (s_23 hS) (by decide) (by omega) (z_rpl hi),
   fun _ _ _ _ _ _ hi => z_sai (s_24 hS) (by decide) (by omega) (z_rpl hi),
   fun _ _ _ _ _ _ hi => z_sai (s_25 hS) (by decide) (by omega) (z_rpl hi),
   fun _ _ _ _ _ _ hi => z_sai (s_26 hS) (by decide) (by omega) (z_rpl hi)⟩
theorem z_Lir {S : z_SH} {P : z_MP} (hS : z_St S) (hP : z_Pt P) :
    (∀ I J P n, q_ob (z_h S I J P n) 4 27 = some (z_vs I J P 27 [2, 2, 0])) ∧
    (∀ I J n, q_gr (q_gf (z_h S I J P n) 4 27 0) = some 28) ∧
    (∀ I J n, q_gr (q_gf (z_h S I J P n) 4 27 1) = some 33) ∧
    (∀ I J P n, q_gi (q_gf (z_h S I J P n) 4 27 2) = some (I 27 2)) ∧
    (∀ I J P n, q_len' (z_h S I J P n) 28 = some (z_n 4)) ∧
    (∀ I J n, q_gr (q_ga (z_h S I J P n) 28 28 (z_n 0)) = some 29) ∧
    (∀ I J n, q_gr (q_ga (z_h S I J P n) 28 28 (z_n 1)) = some 30) ∧
    (∀ I J n, q_gr (q_ga (z_h S I J P n) 28 28 (z_n 2)) = some 31) ∧
    (∀ I J n, q_gr (q_ga (z_h S I J P n) 28 28 (z_n 3)) = some 32) ∧
    (∀ I J P n, q_len' (z_h S I J P n) 29 = some (z_n 17)) ∧
    (∀ I J P n i, i < 17 → q_gi (q_ga (z_h S I J P n) 20 29 (z_n i)) = some (I 29 i)) ∧
    (∀ I J P n, q_len' (z_h S I J P n) 30 = some (z_n 17)) ∧
    (∀ I J P n i, i < 17 → q_gi (q_ga (z_h S I J P n) 20 30 (z_n i)) = some (I 30 i)) ∧
    (∀ I J P n, q_len' (z_h S I J P n) 31 = some (z_n 17)) ∧
    (∀ I J P n i, i < 17 → q_gi (q_ga (z_h S I J P n) 20 31 (z_n i)) = some (I 31 i)) ∧
    (∀ I J P n, q_len' (z_h S I J P n) 32 = some (z_n 17)) ∧
    (∀ I J P n i, i < 17 → q_gi (q_ga (z_h S I J P n) 20 32 (z_n i)) = some (I 32 i)) ∧
    (∀ I J P n, q_len' (z_h S I J P n) 33 = some (z_n 4)) ∧
    (∀ I J P n i, i < 4 → q_gi (q_ga (z_h S I J P n) 20 33 (z_n i)) = some (I 33 i)) :=
  ⟨fun _ _ _ _ => z_ob (s_27 hS),
   fun _ _ _ => z_gr (s_27 hS) rfl (p_27_0 hP),
   fun _ _ _ => z_gr (s_27 hS) rfl (p_27_1 hP),
   fun _ _ _ _ => z_gi (s_27 hS) rfl,
   fun _ _ _ _ => z_len (s_28 hS) (by decide) (by rw [List.length_replicate]),
   fun _ _ _ => z_gra (s_28 hS) (by decide) rfl (p_28_0 hP),
   fun _ _ _ => z_gra (s_28 hS) (by decide) rfl (p_28_1 hP),
   fun _ _ _ => z_gra (s_28 hS) (by decide) rfl (p_28_2 hP),
   fun _ _ _ => z_gra (s_28 hS) (by decide) rfl (p_28_3 hP),
   fun _ _ _ _ => z_len (s_29 hS) (by decide) (by rw [List.length_replicate]),
   fun _ _ _ _ _ hi => z_gia (s_29 hS) (by omega) (z_rpl hi),
   fun _ _ _ _ => z_len (s_30 hS) (by decide) (by rw [List.length_replicate]),
   fun _ _ _ _ _ hi => z_gia (s_30 hS) (by omega) (z_rpl hi),
   fun _ _ _ _ => z_len (s_31 hS) (by decide) (by rw [List.length_replicate]),
   fun _ _ _ _ _ hi => z_gia (s_31 hS) (by omega) (z_rpl hi),
   fun _ _ _ _ => z_len (s_32 hS) (by decide) (by rw [List.length_replicate]),
   fun _ _ _ _ _ hi => z_gia (s_32 hS) (by omega) (z_rpl hi),
   fun _ _ _ _ => z_len (s_33 hS) (by decide) (by rw [List.length_replicate]),
   fun _ _ _ _ _ hi => z_gia (s_33 hS) (by omega) (z_rpl hi)⟩
theorem z_Liw {S : z_SH} (hS : z_St S) :
    (∀ I J P n v, q_sf (z_h S I J P n) 4 27 2 (.int v) = some (z_h S (z_up I 27 2 v) J P n)) ∧
    (∀ I J P n i v, i < 17 → q_sa (z_h S I J P n) 20 29 (z_n i) (.int v) = some (z_h S (z_up I 29 i v) J P n)) ∧
    (∀ I J P n i v, i < 17 → q_sa (z_h S I J P n) 20 30 (z_n i) (.int v) = some (z_h S (z_up I 30 i v) J P n)) ∧
    (∀ I J P n i v, i < 17 → q_sa (z_h S I J P n) 20 31 (z_n i) (.int v) = some (z_h S (z_up I 31 i v) J P n)) ∧
    (∀ I J P n i v, i < 17 → q_sa (z_h S I J P n) 20 32 (z_n i) (.int v) = some (z_h S (z_up I 32 i v) J P n)) ∧
    (∀ I J P n i v, i < 4 → q_sa (z_h S I J P n) 20 33 (z_n i) (.int v) = some (z_h S (z_up I 33 i v) J P n)) :=
  ⟨fun _ _ _ _ _ => z_sfi (s_27 hS) (by decide) rfl,
   fun _ _ _ _ _ _ hi => z_sai (s_29 hS) (by decide) (by omega) (z_rpl hi),
   fun _ _ _ _ _ _ hi => z_sai (s_30 hS) (by decide) (by omega) (z_rpl hi),
   fun _ _ _ _ _ _ hi => z_sai (s_31 hS) (by decide) (by omega) (z_rpl hi),
   fun _ _ _ _ _ _ hi => z_sai (s_32 hS) (by decide) (by omega) (z_rpl hi),
   fun _ _ _ _ _ _ hi => z_sai (s_33 hS) (by decide) (by omega) (z_rpl hi)⟩
theorem z_Wor {S : z_SH} {P : z_MP} (hS : z_St S) (hP : z_Pt P) :
    (∀ I J P n, q_ob (z_h S I J P n) 5 36 = some (z_vs I J P 36 [0, 0, 1, 0, 2, 2, 2, 2])) ∧
    (∀ I J P n, q_gi (q_gf (z_h S I J P n) 5 36 0) = some (I 36 0)) ∧
    (∀ I J P n, q_gi (q_gf (z_h S I J P n) 5 36 1) = some (I 36 1)) ∧
    (∀ I J P n, q_gl' (q_gf (z_h S I J P n) 5 36 2) = some (J 36 2)) ∧
    (∀ I J P n, q_gi (q_gf (z_h S I J P n) 5 36 3) = some (I 36 3)) ∧
    (∀ I J n, q_gr (q_gf (z_h S I J P n) 5 36 4) = some 37) ∧
    (∀ I J n, q_gr (q_gf (z_h S I J P n) 5 36 5) = some 38) ∧
    (∀ I J n, q_gr (q_gf (z_h S I J P n) 5 36 6) = some 39) ∧
    (∀ I J n, q_gr (q_gf (z_h S I J P n) 5 36 7) = some 40) ∧
    (∀ I J P n, q_len' (z_h S I J P n) 37 = some (z_n 6)) ∧
    (∀ I J P n i, i < 6 → q_gi (q_ga (z_h S I J P n) 20 37 (z_n i)) = some (I 37 i)) ∧
    (∀ I J P n, q_len' (z_h S I J P n) 38 = some (z_n 6)) ∧
    (∀ I J P n i, i < 6 → q_gi (q_ga (z_h S I J P n) 22 38 (z_n i)) = some (I 38 i)) ∧
    (∀ I J P n, q_len' (z_h S I J P n) 39 = some (z_n 6)) ∧
    (∀ I J P n i, i < 6 → q_gi (q_ga (z_h S I J P n) 22 39 (z_n i)) = some (I 39 i)) ∧
    (∀ I J P n, q_len' (z_h S I J P n) 40 = some (z_n 6)) ∧
    (∀ I J P n i, i < 6 → q_gi (q_ga (z_h S I J P n) 22 40 (z_n i)) = some (I 40 i)) :=
  ⟨fun _ _ _ _ => z_ob (s_36 hS),
   fun _ _ _ _ => z_gi (s_36 hS) rfl,
   fun _ _ _ _ => z_gi (s_36 hS) rfl,
   fun _ _ _ _ => z_gl (s_36 hS) rfl,
   fun _ _ _ _ => z_gi (s_36 hS) rfl,
   fun _ _ _ => z_gr (s_36 hS) rfl (p_36_4 hP),
   fun _ _ _ => z_gr (s_36 hS) rfl (p_36_5 hP),
   fun _ _ _ => z_gr (s_36 hS) rfl (p_36_6 hP),
   fun _ _ _ => z_gr (s_36 hS) rfl (p_36_7 hP),
   fun _ _ _ _ => z_len (s_37 hS) (by decide) (by rw [List.length_replicate]),
   fun _ _ _ _ _ hi => z_gia (s_37 hS) (by omega) (z_rpl hi),
   fun _ _ _ _ => z_len (s_38 hS) (by decide) (by rw [List.length_replicate]),
   fun _ _ _ _ _ hi => z_gia (s_38 hS) (by omega) (z_rpl hi),
   fun _ _ _ _ => z_len (s_39 hS) (by decide) (by rw [List.length_replicate]),
   fun _ _ _ _ _ hi => z_gia (s_39 hS) (by omega) (z_rpl hi),
   fun _ _ _ _ => z_len (s_40 hS) (by decide) (by rw [List.length_replicate]),
   fun _ _ _ _ _ hi => z_gia (s_40 hS) (by omega) (z_rpl hi)⟩
theorem z_Wow {S : z_SH} (hS : z_St S) :
    (∀ I J P n v, q_sf (z_h S I J P n) 5 36 0 (.int v) = some (z_h S (z_up I 36 0 v) J P n)) ∧
    (∀ I J P n v, q_sf (z_h S I J P n) 5 36 1 (.int v) = some (z_h S (z_up I 36 1 v) J P n)) ∧
    (∀ I J P n v, q_sf (z_h S I J P n) 5 36 2 (.long v) = some (z_h S I (z_uj J 36 2 v) P n)) ∧
    (∀ I J P n v, q_sf (z_h S I J P n) 5 36 3 (.int v) = some (z_h S (z_up I 36 3 v) J P n)) ∧
    (∀ I J P n i v, i < 6 → q_sa (z_h S I J P n) 20 37 (z_n i) (.int v) = some (z_h S (z_up I 37 i v) J P n)) ∧
    (∀ I J P n i v, i < 6 → q_sa (z_h S I J P n) 22 38 (z_n i) (.int v) = some (z_h S (z_up I 38 i v) J P n)) ∧
    (∀ I J P n i v, i < 6 → q_sa (z_h S I J P n) 22 39 (z_n i) (.int v) = some (z_h S (z_up I 39 i v) J P n)) ∧
    (∀ I J P n i v, i < 6 → q_sa (z_h S I J P n) 22 40 (z_n i) (.int v) = some (z_h S (z_up I 40 i v) J P n)) :=
  ⟨fun _ _ _ _ _ => z_sfi (s_36 hS) (by decide) rfl,
   fun _ _ _ _ _ => z_sfi (s_36 hS) (by decide) rfl,
   fun _ _ _ _ _ => z_sfl (s_36 hS) (by decide) rfl,
   fun _ _ _ _ _ => z_sfi (s_36 hS) (by decide) rfl,
   fun _ _ _ _ _ _ hi => z_sai (s_37 hS) (by decide) (by omega) (z_rpl hi),
   fun _ _ _ _ _ _ hi => z_sai (s_38 hS) (by decide) (by omega) (z_rpl hi),
   fun _ _ _ _ _ _ hi => z_sai (s_39 hS) (by decide) (by omega) (z_rpl hi),
   fun _ _ _ _ _ _ hi => z_sai (s_40 hS) (by decide) (by omega) (z_rpl hi)⟩
theorem z_Otr {S : z_SH} {P : z_MP} (hS : z_St S) (hP : z_Pt P) :
    (∀ I J P n, q_len' (z_h S I J P n) 34 = some (z_n 4)) ∧
    (∀ I J P n, q_len' (z_h S I J P n) 35 = some (z_n 13)) ∧
    (∀ I J P n i, i < 13 → q_gi (q_ga (z_h S I J P n) 20 35 (z_n i)) = some (I 35 i)) ∧
    (∀ I J P n, q_len' (z_h S I J P n) 41 = some (z_n 225)) ∧
    (∀ I J P n i, i < 225 → q_gi (q_ga (z_h S I J P n) 20 41 (z_n i)) = some (I 41 i)) ∧
    (∀ I J P n, q_len' (z_h S I J P n) 42 = some (z_n 225)) ∧
    (∀ I J P n i, i < 225 → q_gi (q_ga (z_h S I J P n) 20 42 (z_n i)) = some (I 42 i)) :=
  ⟨fun _ _ _ _ => z_len (s_34 hS) (by decide) (by rw [List.length_replicate]),
   fun _ _ _ _ => z_len (s_35 hS) (by decide) (by rw [List.length_replicate]),
   fun _ _ _ _ _ hi => z_gia (s_35 hS) (by omega) (z_rpl hi),
   fun _ _ _ _ => z_len (s_41 hS) (by decide) (by rw [List.length_replicate]),
   fun _ _ _ _ _ hi => z_gia (s_41 hS) (by omega) (z_rpl hi),
   fun _ _ _ _ => z_len (s_42 hS) (by decide) (by rw [List.length_replicate]),
   fun _ _ _ _ _ hi => z_gia (s_42 hS) (by omega) (z_rpl hi)⟩
theorem z_Otw {S : z_SH} (hS : z_St S) :
    (∀ I J P n i v, i < 13 → q_sa (z_h S I J P n) 20 35 (z_n i) (.int v) = some (z_h S (z_up I 35 i v) J P n)) ∧
    (∀ I J P n i v, i < 225 → q_sa (z_h S I J P n) 20 41 (z_n i) (.int v) = some (z_h S (z_up I 41 i v) J P n)) ∧
    (∀ I J P n i v, i < 225 → q_sa (z_h S I J P n) 20 42 (z_n i) (.int v) = some (z_h S (z_up I 42 i v) J P n)) :=
  ⟨fun _ _ _ _ _ _ hi => z_sai (s_35 hS) (by decide) (by omega) (z_rpl hi),
   fun _ _ _ _ _ _ hi => z_sai (s_41 hS) (by decide) (by omega) (z_rpl hi),
   fun _ _ _ _ _ _ hi => z_sai (s_42 hS) (by decide) (by omega) (z_rpl hi)⟩
