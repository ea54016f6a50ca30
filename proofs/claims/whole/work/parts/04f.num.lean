/-! Longs, and fractions in lowest terms. -/
def z_z (n : Int) : Int64 := Int64.ofInt n
theorem z_z_add (a b : Int) : z_z a + z_z b = z_z (a + b) := (Int64.ofInt_add a b).symm
theorem z_z_sub (a b : Int) : z_z a - z_z b = z_z (a - b) := (Int64.ofInt_sub a b).symm
theorem z_z_mul (a b : Int) : z_z a * z_z b = z_z (a * b) := (Int64.ofInt_mul a b).symm
theorem z_z_neg (a : Int) : -z_z a = z_z (-a) := (Int64.ofInt_neg a).symm
theorem z_z_int {a : Int} (h1 : -4000000000000000000 ≤ a) (h2 : a ≤ 4000000000000000000) : (z_z a).toInt = a := Int64.toInt_ofInt_of_le (by omega) (by omega)
theorem z_z_lt {a b : Int} (h1 : -4000000000000000000 ≤ a) (h2 : a ≤ 4000000000000000000) (h3 : -4000000000000000000 ≤ b) (h4 : b ≤ 4000000000000000000) : (z_z a < z_z b) = (a < b) := by
  rw [Int64.lt_iff_toInt_lt, z_z_int h1 h2, z_z_int h3 h4]
theorem z_z_eq {a b : Int} (h1 : -4000000000000000000 ≤ a) (h2 : a ≤ 4000000000000000000) (h3 : -4000000000000000000 ≤ b) (h4 : b ≤ 4000000000000000000) : (z_z a = z_z b) = (a = b) := by
  rw [← Int64.toInt_inj, z_z_int h1 h2, z_z_int h3 h4]
theorem z_z_div {a b : Int} (h1 : -4000000000000000000 ≤ a) (h2 : a ≤ 4000000000000000000) (h3 : -4000000000000000000 ≤ b) (h4 : b ≤ 4000000000000000000) : z_z a / z_z b = z_z (a.tdiv b) := by
  have e1 : Int64.minValue.toInt = -9223372036854775808 := by decide
  have e2 : Int64.maxValue.toInt = 9223372036854775807 := by decide
  exact (Int64.ofInt_tdiv (by omega) (by omega) (by omega) (by omega)).symm
theorem z_z0 : (0 : Int64) = z_z 0 ∧ (1 : Int64) = z_z 1 := ⟨rfl, rfl⟩
theorem z_z32 {n : Nat} (h : n < 2147483648) : (z_n n).toInt64 = z_z n := by
  unfold z_n z_z
  rw [Int32.toInt64_ofNat' (by have e : Int32.maxValue.toInt = 2147483647 := by decide
                               omega), ← Int64.ofInt_eq_ofNat]
theorem z_zto (n : Int) : (z_z n).toInt32 = Int32.ofInt n := Int64.toInt32_ofInt
theorem z_zton (n : Nat) : (z_z (n : Int)).toInt32 = z_n n := by
  unfold z_z
  rw [Int64.ofInt_eq_ofNat]; exact Int64.toInt32_ofNat'
/-- Fibonacci's numbers -/
def z_fl : List Nat := [0, 1, 1, 2, 3, 5, 8, 13, 21, 34, 55, 89, 144, 233, 377, 610, 987, 1597, 2584, 4181, 6765, 10946, 17711, 28657, 46368, 75025, 121393, 196418, 317811, 514229, 832040, 1346269, 2178309, 3524578, 5702887, 9227465, 14930352, 24157817, 39088169, 63245986, 102334155, 165580141, 267914296, 433494437, 701408733, 1134903170, 1836311903, 2971215073, 4807526976, 7778742049, 12586269025, 20365011074, 32951280099, 53316291173, 86267571272, 139583862445, 225851433717, 365435296162, 591286729879, 956722026041, 1548008755920, 2504730781961, 4052739537881, 6557470319842, 10610209857723, 17167680177565, 27777890035288, 44945570212853, 72723460248141, 117669030460994, 190392490709135, 308061521170129, 498454011879264, 806515533049393, 1304969544928657, 2111485077978050, 3416454622906707, 5527939700884757, 8944394323791464, 14472334024676221, 23416728348467685, 37889062373143906, 61305790721611591, 99194853094755497, 160500643816367088, 259695496911122585, 420196140727489673, 679891637638612258, 1100087778366101931, 1779979416004714189, 2880067194370816120, 4660046610375530309]
def z_fb (k : Nat) : Nat := z_fl.getD k 0
theorem z_fb2 (k : Nat) (hk : k < 88) : z_fb (k + 2) = z_fb (k + 1) + z_fb k := by
  have h : (List.range 88).all (fun k => z_fb (k + 2) == z_fb (k + 1) + z_fb k) = true := by decide +kernel
  have := List.all_eq_true.mp h k (List.mem_range.mpr hk)
  simpa using this
/-- Euclid's steps: F goes one step on as it should -/
theorem z_eu {T : Type} (B : Nat) (F : Nat → Nat → Nat → Option T) (r : Nat → Option T) (stop : ∀ m x, m < B → F (m + 1) x 0 = r x) (step : ∀ m x y, m < B → x ≤ 200000000000000000 → y ≤ 200000000000000000 → 0 < y → F (m + 1) x y = F m y (x % y)) :
    ∀ (k x y m : Nat), k < 87 → y < x → x ≤ 200000000000000000 → (y < z_fb (k + 1) ∨ x < z_fb (k + 2)) → k < m → m ≤ B → F m x y = r (Nat.gcd x y)
  | k, x, y, 0, _, _, _, _, h, _ => absurd h (Nat.not_lt_zero _)
  | 0, x, y, m + 1, hk, hxy, hx, hf, hm, hB => by
    have e1 : z_fb (0 + 1) = 1 := rfl
    have e2 : z_fb (0 + 2) = 1 := rfl
    have : y = 0 := by omega
    subst this
    rw [stop m x (by omega), Nat.gcd_zero_right]
  | k + 1, x, y, m + 1, hk, hxy, hx, hf, hm, hB => by
    by_cases hy : y = 0
    · subst hy; rw [stop m x (by omega), Nat.gcd_zero_right]
    · rw [step m x y (by omega) hx (by omega) (by omega)]
      have hr : x % y < y := Nat.mod_lt _ (by omega)
      rw [z_eu B F r stop step k y (x % y) m (by omega) hr (by omega) ?_ (by omega) (by omega)]
      · rw [Nat.gcd_comm x y, Nat.gcd_rec y x, Nat.gcd_comm]
      · have h2 : z_fb (k + 1 + 2) = z_fb (k + 2) + z_fb (k + 1) := z_fb2 (k + 1) (by omega)
        have h7 : z_fb (k + 1 + 1) = z_fb (k + 2) := rfl
        have h3 : x % y ≤ x - y := by
          have h4 := Nat.mod_add_div x y
          have h5 : 1 ≤ x / y := (Nat.le_div_iff_mul_le (by omega)).mpr (by omega)
          have h6 : y * 1 ≤ y * (x / y) := Nat.mul_le_mul_left y h5
          omega
        omega
/-- any two: one step more -/
theorem z_eu' {T : Type} (B : Nat) (F : Nat → Nat → Nat → Option T) (r : Nat → Option T) (stop : ∀ m x, m < B → F (m + 1) x 0 = r x) (step : ∀ m x y, m < B → x ≤ 200000000000000000 → y ≤ 200000000000000000 → 0 < y → F (m + 1) x y = F m y (x % y)) (x y m : Nat) (hx : x ≤ 200000000000000000) (hy : y ≤ 200000000000000000) (hm : 88 < m) (hB : m ≤ B) : F m x y = r (Nat.gcd x y) := by
  have e : 200000000000000000 < z_fb (86 + 1) := by decide
  cases m with
  | zero => omega
  | succ m =>
    by_cases h : y = 0
    · subst h; rw [stop m x (by omega), Nat.gcd_zero_right]
    · rw [step m x y (by omega) hx hy (by omega), z_eu B F r stop step 86 y (x % y) m (by omega) (Nat.mod_lt _ (by omega)) hy (Or.inl (by have := Nat.mod_lt x (show y > 0 by omega); omega)) (by omega) (by omega)]
      rw [Nat.gcd_comm x y, Nat.gcd_rec y x, Nat.gcd_comm]
/-- a fraction in lowest terms -/
def z_ra (A : Int) (b : Nat) (what : Int32) : Int64 := if what = z_n 0 then z_z (A.tdiv (Nat.gcd A.natAbs b)) else z_z ((b / Nat.gcd A.natAbs b : Nat))
theorem z_zmod {x y : Nat} (hx : x ≤ 200000000000000000) (hy : y ≤ 200000000000000000) (h : 0 < y) : z_z x - z_z x / z_z y * z_z y = z_z (x % y : Nat) := by
  rw [z_z_div (by omega) (by omega) (by omega) (by omega), z_z_mul, z_z_sub]
  congr 1
  have h1 : (x : Int).tdiv (y : Int) = ((x / y : Nat) : Int) := by rw [Int.ofNat_tdiv]
  rw [h1]
  have h2 := Nat.mod_add_div x y
  have h3 : ((x / y : Nat) : Int) * (y : Int) = ((y * (x / y) : Nat) : Int) := by rw [Nat.mul_comm]; exact (Int.natCast_mul _ _).symm
  rw [h3]; omega
set_option maxRecDepth 100000 in
set_option maxHeartbeats 4000000 in
theorem M_lowest {A : Int} {b : Nat} {what : Int32} {σ : q_H} (hA : A.natAbs ≤ 200000000000000000) (hb : b ≤ 200000000000000000) (h0 : 0 < b) : f_Mo_lowest (z_z A) (z_z b) what σ = some (z_ra A b what, σ) := by
  have h1 : (if z_z A < (0 : Int64) then (some ((-z_z A), σ)) else (some (z_z A, σ))) = some (z_z (A.natAbs : Int), σ) := by
    have k := z_z_lt (a := A) (b := 0) (by omega) (by omega) (by omega) (by omega)
    by_cases h : A < 0
    · rw [if_pos (by rw [z_z0.1, k]; exact h), z_z_neg]; congr 2; congr 1; omega
    · rw [if_neg (by rw [z_z0.1, k]; exact h)]; congr 2; congr 1; omega
  have h2 := z_eu' q_FU (fun m x y => f_Mo_lowest_L17 (z_z A) (z_z b) what m (z_z x) (z_z y) σ) (fun g => some (z_z g, σ))
    (by intro m x _; simp only [f_Mo_lowest_L17]; exact if_pos rfl)
    (by
      intro m x y _ hx hy h
      have e : ¬ z_z y = z_z 0 := by rw [z_z_eq (by omega) (by omega) (by omega) (by omega)]; omega
      simp only [f_Mo_lowest_L17, z_z0.1, if_neg e, z_zmod hx hy h])
    A.natAbs b q_FU hA hb (by rw [z_FU]; omega) (Nat.le_refl _)
  have hg : 0 < Nat.gcd A.natAbs b := Nat.gcd_pos_of_pos_right _ h0
  have hg2 : Nat.gcd A.natAbs b ≤ b := Nat.gcd_le_right _ h0
  have e : ¬ z_z (Nat.gcd A.natAbs b : Int) = z_z 0 := by rw [z_z_eq (by omega) (by omega) (by omega) (by omega)]; omega
  unfold f_Mo_lowest z_ra
  replace h2 : f_Mo_lowest_L17 (z_z A) (z_z b) what q_FU (z_z (A.natAbs : Int)) (z_z (b : Int)) σ = some (z_z (Nat.gcd A.natAbs b : Int), σ) := h2
  rw [h1, z_sq, h2, z_sq]
  simp only [z_z0.1, if_neg e]
  rw [z_z_div (by omega) (by omega) (by omega) (by omega), z_z_div (by omega) (by omega) (by omega) (by omega), Int.ofNat_tdiv]
  by_cases hw : what = z_n 0
  · rw [if_pos hw]; exact if_pos hw
  · rw [if_neg hw]; exact if_neg hw
