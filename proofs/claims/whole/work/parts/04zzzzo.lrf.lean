/-! LAW: products, sums, tests, wholes. -/
theorem q_sq_as {A B C : Type} (a : Option (A × q_H)) (f : A → q_H → Option (B × q_H)) (g : B → q_H → Option (C × q_H)) : q_sq (q_sq a f) g = q_sq a (fun x σ => q_sq (f x σ) g) := by
  rcases a with _ | ⟨x, σ⟩ <;> rfl
theorem q_sq_bd {A B C : Type} (a : Option A) (f : A → Option (B × q_H)) (g : B → q_H → Option (C × q_H)) : q_sq (a.bind f) g = a.bind (fun x => q_sq (f x) g) := by
  cases a <;> rfl
def y_o0 (T : k_T) (p : Nat) : Option (Nat × Nat) := if k_is T p 42 = true then some (22, 20008) else none
def y_o1 (T : k_T) (p : Nat) : Option (Nat × Nat) := if k_is T p 43 = true then some (20, 20006) else if k_is T p 45 = true then some (21, 20007) else none
def y_o3 (T : k_T) (p : Nat) : Option (Nat × Nat) := if k_ix T k_w2 p = 13 then some (26, 20002) else if k_ix T k_w2 p = 14 then some (27, 20003) else none
def y_f0 (r d : Nat) : Nat → Nat → Int32 → Nat → q_H → Option (Int32 × q_H) := fun k f v i σ => q_sq (f_Lr_parseProduct_L8 (f_Lr_parsePart k) r (z_n d) f v (z_n i) σ) fun (t4 : Int32) σ5 => some (t4, σ5)
def y_f1 (r d : Nat) : Nat → Nat → Int32 → Nat → q_H → Option (Int32 × q_H) := fun k f v i σ => q_sq (f_Lr_parseSum_L8 (f_Lr_parsePart k) r (z_n d) f v (z_n i) σ) fun (t0 : Int32 ⊕ Int32) σ5 => match t0 with | .inl r6 => some (r6, σ5) | .inr t4 => (some (t4, σ5))
def y_f3 (r d : Nat) : Nat → Nat → Int32 → Nat → q_H → Option (Int32 × q_H) := fun k f v i σ => q_sq (f_Lr_parseWhole_L8 (f_Lr_parsePart k) r (z_n d) f v (z_n i) σ) fun (t0 : Int32 ⊕ Int32) σ5 => match t0 with | .inl r6 => some (r6, σ5) | .inr t4 => (some (t4, σ5))
section
variable {T : k_T} {r c d p : Nat}
theorem y_n0 {F : Nat} (h0 : 0 < F) (h1 : F < 20000) : ¬ z_n F = (0 : Int32) := by rw [show (0 : Int32) = z_n 0 from rfl, z_eq (by omega) (by omega)]; omega
theorem y_i1000 {i : Nat} (h : i < 1000) : z_n i < (1000 : Int32) := by rw [show (1000 : Int32) = z_n 1000 from rfl, z_lt (by omega) (by omega)]; exact h
set_option maxRecDepth 100000 in
set_option maxHeartbeats 4000000 in
theorem y_op0 (hd : d ≤ 5) : y_op T r c 0 d (y_o0 T) (y_f0 r d) := by
  have n10 : (z_n 1 = (0 : Int32)) = False := eq_false (by decide)
  refine ⟨fun k f i p S I J P n hS hP b s hp kC hi => ⟨fun x o q => ?_, fun q => ?_⟩, fun k f F i σ h0 h1 => ?_, fun p z x o S I J P n hS hP hT hp kM h39 zp q => ?_, fun p c0 q st => ?_, fun p x o q => ?_, fun m rc w h => y_l1 h, fun k σ => rfl⟩
  · unfold y_o0 at q
    by_cases h : k_is T p 42 = true
    · rw [if_pos h] at q
      cases q
      unfold y_f0
      rw [f_Lr_parseProduct_L8, if_pos (show z_n 0 = (0 : Int32) from rfl), if_pos (y_i1000 hi), z_gr b.1 rfl b.2.1, Option.bind_some, z_ob (s_9 hS), Option.bind_some, show (42 : Int32) = z_n 42 from rfl, C_isSign hS hp s.2.1 kC (by omega), z_b_t h, z_sq, if_neg (show ¬ z_n 1 = (0 : Int32) by decide), z_gr b.1 rfl b.2.1, Option.bind_some, z_ob (s_9 hS), Option.bind_some]
      simp only [q_sq_as, q_sq_bd]
      rw [show z_n i + (1 : Int32) = z_n (i + 1) from z_n_add i 1]
      rfl
    · rw [if_neg h] at q; cases q
  · unfold y_o0 at q
    by_cases h : k_is T p 42 = true
    · rw [if_pos h] at q; cases q
    · unfold y_f0
      rw [f_Lr_parseProduct_L8, if_pos (show z_n 0 = (0 : Int32) from rfl), if_pos (y_i1000 hi), z_gr b.1 rfl b.2.1, Option.bind_some, z_ob (s_9 hS), Option.bind_some, show (42 : Int32) = z_n 42 from rfl, C_isSign hS hp s.2.1 kC (by omega), z_b_f h, z_sq, if_pos (show z_n 0 = (0 : Int32) from rfl), z_sq]
  · unfold y_f0
    rw [f_Lr_parseProduct_L8, if_neg (y_n0 h0 h1), z_sq]
  · unfold y_o0 at q
    by_cases h : k_is T p 42 = true
    · rw [if_pos h] at q
      cases q
      obtain ⟨X, Z, a1, a2, a3, a4, a5, a6⟩ := R_times hS hP hT hp kM h39 zp hd h
      exact ⟨X, Z, a1, a2, a3, a4, fun j => by rw [a5], fun j _ => by rw [a6], by rw [a6]; rfl⟩
    · rw [if_neg h] at q; cases q
  · unfold y_o0 at q
    by_cases h : k_is T p 42 = true
    · rw [if_pos h] at q; cases q
    · exact ⟨fun _ => Bool.eq_false_iff.mpr h, fun e => absurd e (by omega), fun e => absurd e (by omega), fun e => absurd e (by omega)⟩
  · unfold y_o0 at q
    by_cases h : k_is T p 42 = true
    · rw [if_pos h] at q
      cases q
      exact ⟨by rw [(k_is_k h).1]; omega, by omega, fun m rc w r2 w2 h1 h2 => y_tm h1 h2⟩
    · rw [if_neg h] at q; cases q
set_option maxRecDepth 100000 in
set_option maxHeartbeats 4000000 in
theorem y_op1 (hd : d ≤ 5) : y_op T r c 1 d (y_o1 T) (y_f1 r d) := by
  have n10 : (z_n 1 = (0 : Int32)) = False := eq_false (by decide)
  have z00 : (z_n 0 = (0 : Int32)) = True := eq_true rfl
  refine ⟨fun k f i p S I J P n hS hP b s hp kC hi => ⟨fun x o q => ?_, fun q => ?_⟩, fun k f F i σ h0 h1 => ?_, fun p z x o S I J P n hS hP hT hp kM h39 zp q => ?_, fun p c0 q st => ?_, fun p x o q => ?_, fun m rc w h => y_l2 h, fun k σ => rfl⟩
  · unfold y_o1 at q
    have n1 : z_n i + (1 : Int32) = z_n (i + 1) := z_n_add i 1
    by_cases h : k_is T p 43 = true
    · rw [if_pos h] at q
      cases q
      unfold y_f1
      rw [f_Lr_parseSum_L8, if_pos (show z_n 0 = (0 : Int32) from rfl), if_pos (y_i1000 hi), z_gr b.1 rfl b.2.1, Option.bind_some, z_ob (s_9 hS), Option.bind_some, show (43 : Int32) = z_n 43 from rfl, C_isSign hS hp s.2.1 kC (by omega), z_b_t h, z_sq, if_neg (show ¬ z_n 1 = (0 : Int32) by decide), z_gr b.1 rfl b.2.1, Option.bind_some, z_ob (s_9 hS), Option.bind_some, n1]
      simp only [n10, if_false, z_sq, q_sq_as, q_sq_bd]
      rfl
    · rw [if_neg h] at q
      by_cases h2 : k_is T p 45 = true
      · rw [if_pos h2] at q
        cases q
        unfold y_f1
        rw [f_Lr_parseSum_L8, if_pos (show z_n 0 = (0 : Int32) from rfl), if_pos (y_i1000 hi), z_gr b.1 rfl b.2.1, Option.bind_some, z_ob (s_9 hS), Option.bind_some, show (43 : Int32) = z_n 43 from rfl, C_isSign hS hp s.2.1 kC (by omega), z_b_f h, z_sq, if_pos (show z_n 0 = (0 : Int32) from rfl), z_gr b.1 rfl b.2.1, Option.bind_some, z_ob (s_9 hS), Option.bind_some, show (45 : Int32) = z_n 45 from rfl, C_isSign hS hp s.2.1 kC (by omega), z_b_t h2, z_sq, if_neg (show ¬ z_n 1 = (0 : Int32) by decide), z_gr b.1 rfl b.2.1, Option.bind_some, z_ob (s_9 hS), Option.bind_some, n1]
        simp only [z00, if_true, z_sq, q_sq_as, q_sq_bd]
        rfl
      · rw [if_neg h2] at q; cases q
  · unfold y_o1 at q
    by_cases h : k_is T p 43 = true
    · rw [if_pos h] at q; cases q
    · rw [if_neg h] at q
      by_cases h2 : k_is T p 45 = true
      · rw [if_pos h2] at q; cases q
      · unfold y_f1
        rw [f_Lr_parseSum_L8, if_pos (show z_n 0 = (0 : Int32) from rfl), if_pos (y_i1000 hi), z_gr b.1 rfl b.2.1, Option.bind_some, z_ob (s_9 hS), Option.bind_some, show (43 : Int32) = z_n 43 from rfl, C_isSign hS hp s.2.1 kC (by omega), z_b_f h, z_sq, if_pos (show z_n 0 = (0 : Int32) from rfl), z_gr b.1 rfl b.2.1, Option.bind_some, z_ob (s_9 hS), Option.bind_some, show (45 : Int32) = z_n 45 from rfl, C_isSign hS hp s.2.1 kC (by omega), z_b_f h2, z_sq, if_pos (show z_n 0 = (0 : Int32) from rfl), z_sq]
        rfl
  · unfold y_f1
    rw [f_Lr_parseSum_L8, if_neg (y_n0 h0 h1), z_sq]
  · unfold y_o1 at q
    by_cases h : k_is T p 43 = true
    · rw [if_pos h] at q
      cases q
      obtain ⟨X, Z, a1, a2, a3, a4, a5, a6⟩ := R_plus hS hP hT hp kM h39 zp hd h
      exact ⟨X, Z, a1, a2, a3, a4, fun j => by rw [a5], fun j _ => by rw [a6], by rw [a6]; rfl⟩
    · rw [if_neg h] at q
      by_cases h2 : k_is T p 45 = true
      · rw [if_pos h2] at q
        cases q
        obtain ⟨X, Z, a1, a2, a3, a4, a5, a6⟩ := R_minus hS hP hT hp kM h39 zp hd h2
        exact ⟨X, Z, a1, a2, a3, a4, fun j => by rw [a5], fun j _ => by rw [a6], by rw [a6]; rfl⟩
      · rw [if_neg h2] at q; cases q
  · unfold y_o1 at q
    by_cases h : k_is T p 43 = true
    · rw [if_pos h] at q; cases q
    · rw [if_neg h] at q
      by_cases h2 : k_is T p 45 = true
      · rw [if_pos h2] at q; cases q
      · exact ⟨fun _ => st.1 (by omega), fun _ => ⟨Bool.eq_false_iff.mpr h, Bool.eq_false_iff.mpr h2⟩, fun e => absurd e (by omega), fun e => absurd e (by omega)⟩
  · unfold y_o1 at q
    by_cases h : k_is T p 43 = true
    · rw [if_pos h] at q
      cases q
      exact ⟨by rw [(k_is_k h).1]; omega, by omega, fun m rc w r2 w2 h1 h2 => y_pm (by omega) h1 h2⟩
    · rw [if_neg h] at q
      by_cases h2 : k_is T p 45 = true
      · rw [if_pos h2] at q
        cases q
        exact ⟨by rw [(k_is_k h2).1]; omega, by omega, fun m rc w r2 w2 h1 h2 => y_pm (by omega) h1 h2⟩
      · rw [if_neg h2] at q; cases q
set_option maxRecDepth 100000 in
set_option maxHeartbeats 4000000 in
theorem y_op3 (hd : d ≤ 5) : y_op T r c 3 d (y_o3 T) (y_f3 r d) := by
  have i18 : ∀ p, k_ix T k_w2 p ≤ 18 := fun p => @k_i2_le T p
  have x13 : ∀ p, ((if k_ix T k_w2 p < 18 then z_n (k_ix T k_w2 p) else -z_n 1) = (13 : Int32)) = (k_ix T k_w2 p = 13) := fun p => by
    have := i18 p
    by_cases q : k_ix T k_w2 p < 18
    · rw [if_pos q, show (13 : Int32) = z_n 13 from rfl, z_eq (by omega) (by omega)]
    · rw [if_neg q]
      exact propext ⟨fun h => absurd h (by decide), fun h => absurd h (by omega)⟩
  have x14 : ∀ p, ((if k_ix T k_w2 p < 18 then z_n (k_ix T k_w2 p) else -z_n 1) = (14 : Int32)) = (k_ix T k_w2 p = 14) := fun p => by
    have := i18 p
    by_cases q : k_ix T k_w2 p < 18
    · rw [if_pos q, show (14 : Int32) = z_n 14 from rfl, z_eq (by omega) (by omega)]
    · rw [if_neg q]
      exact propext ⟨fun h => absurd h (by decide), fun h => absurd h (by omega)⟩
  refine ⟨fun k f i p S I J P n hS hP b s hp kC hi => ⟨fun x o q => ?_, fun q => ?_⟩, fun k f F i σ h0 h1 => ?_, fun p z x o S I J P n hS hP hT hp kM h39 zp q => ?_, fun p c0 q st => ?_, fun p x o q => ?_, fun m rc w h => y_l4 h, fun k σ => rfl⟩
  · unfold y_o3 at q
    have n1 : z_n i + (1 : Int32) = z_n (i + 1) := z_n_add i 1
    by_cases h : k_ix T k_w2 p = 13
    · rw [if_pos h] at q
      cases q
      unfold y_f3
      rw [f_Lr_parseWhole_L8, if_pos (show z_n 0 = (0 : Int32) from rfl), if_pos (y_i1000 hi), z_gr b.1 rfl b.2.1, Option.bind_some, z_gr b.1 rfl b.2.2.1, Option.bind_some, z_ob (s_9 hS), Option.bind_some, C_word hS hP s kC, z_sq, if_pos ((x13 p).mpr h), z_gr b.1 rfl b.2.1, Option.bind_some, z_ob (s_9 hS), Option.bind_some, n1]
      simp only [(x13 p).mpr h, if_true, z_sq, q_sq_as, q_sq_bd]
      rfl
    · rw [if_neg h] at q
      by_cases h2 : k_ix T k_w2 p = 14
      · rw [if_pos h2] at q
        cases q
        unfold y_f3
        rw [f_Lr_parseWhole_L8, if_pos (show z_n 0 = (0 : Int32) from rfl), if_pos (y_i1000 hi), z_gr b.1 rfl b.2.1, Option.bind_some, z_gr b.1 rfl b.2.2.1, Option.bind_some, z_ob (s_9 hS), Option.bind_some, C_word hS hP s kC, z_sq, if_neg (fun e => h ((x13 p).mp e)), if_pos ((x14 p).mpr h2), z_gr b.1 rfl b.2.1, Option.bind_some, z_ob (s_9 hS), Option.bind_some, n1]
        have nf : ((if k_ix T k_w2 p < 18 then z_n (k_ix T k_w2 p) else -z_n 1) = (13 : Int32)) = False := eq_false (fun e => h ((x13 p).mp e))
        simp only [nf, if_false, z_sq, q_sq_as, q_sq_bd]
        rfl
      · rw [if_neg h2] at q; cases q
  · unfold y_o3 at q
    by_cases h : k_ix T k_w2 p = 13
    · rw [if_pos h] at q; cases q
    · rw [if_neg h] at q
      by_cases h2 : k_ix T k_w2 p = 14
      · rw [if_pos h2] at q; cases q
      · unfold y_f3
        rw [f_Lr_parseWhole_L8, if_pos (show z_n 0 = (0 : Int32) from rfl), if_pos (y_i1000 hi), z_gr b.1 rfl b.2.1, Option.bind_some, z_gr b.1 rfl b.2.2.1, Option.bind_some, z_ob (s_9 hS), Option.bind_some, C_word hS hP s kC, z_sq, if_neg (fun e => h ((x13 p).mp e)), if_neg (fun e => h2 ((x14 p).mp e)), z_sq]
        rfl
  · unfold y_f3
    rw [f_Lr_parseWhole_L8, if_neg (y_n0 h0 h1), z_sq]
  · unfold y_o3 at q
    by_cases h : k_ix T k_w2 p = 13
    · rw [if_pos h] at q
      cases q
      obtain ⟨X, Z, a1, a2, a3, a4, a5, a6⟩ := R_and hS hP hT hp kM h39 zp hd h
      exact ⟨X, Z, a1, a2, a3, a4, fun j => by rw [a5], fun j hj => by rw [a6, if_neg (by omega)], ((a6 d).trans (if_pos rfl)).trans (if_pos (by decide)).symm⟩
    · rw [if_neg h] at q
      by_cases h2 : k_ix T k_w2 p = 14
      · rw [if_pos h2] at q
        cases q
        obtain ⟨X, Z, a1, a2, a3, a4, a5, a6⟩ := R_or hS hP hT hp kM h39 zp hd h2
        exact ⟨X, Z, a1, a2, a3, a4, fun j => by rw [a5], fun j hj => by rw [a6, if_neg (by omega)], ((a6 d).trans (if_pos rfl)).trans (if_pos (by decide)).symm⟩
      · rw [if_neg h2] at q; cases q
  · unfold y_o3 at q
    by_cases h : k_ix T k_w2 p = 13
    · rw [if_pos h] at q; cases q
    · rw [if_neg h] at q
      by_cases h2 : k_ix T k_w2 p = 14
      · rw [if_pos h2] at q; cases q
      · exact ⟨fun _ => st.1 (by omega), fun _ => st.2.1 (by omega), fun _ => st.2.2.1 (by omega), fun _ => ⟨h, h2⟩⟩
  · unfold y_o3 at q
    by_cases h : k_ix T k_w2 p = 13
    · rw [if_pos h] at q
      cases q
      exact ⟨by rw [(k_i2_is (show k_ix T k_w2 p < 18 by omega)).1]; omega, by omega, fun m rc w r2 w2 h1 h2 => y_ao (by omega) h1 h2⟩
    · rw [if_neg h] at q
      by_cases h2 : k_ix T k_w2 p = 14
      · rw [if_pos h2] at q
        cases q
        exact ⟨by rw [(k_i2_is (show k_ix T k_w2 p < 18 by omega)).1]; omega, by omega, fun m rc w r2 w2 h1 h2 => y_ao (by omega) h1 h2⟩
      · rw [if_neg h2] at q; cases q
end
