/-! READ: the class makes a page. -/
section
variable {S : z_SH} {I : z_MI} {J : z_MJ} {P : z_MP} {g q : Nat}
set_option maxRecDepth 100000 in
set_option maxHeartbeats 4000000 in
theorem C_pinit (h : S g = some (8, k_Ks)) (hg : 131 ≤ g) : ∃ S' I' J' P', f_Pa_init g (z_h S I J P (g + 1, q)) = some ((), z_h S' I' J' P' (g + 13, q + 136)) ∧ z_ps S' P' g ∧ (∀ a, a < g → S' a = S a ∧ I' a = I a ∧ J' a = J a ∧ P' a = P a) ∧ I' g = I g ∧ (∀ k, 1 ≤ k → k ≤ 10 → ∀ i, I' (g + k) i = z_n 0 ∧ J' (g + k) i = 0) ∧ ∀ q t, q < 5 → t < 3 → I' (g + 12) (q * 3 + t) = z_n 0 := by
  obtain ⟨S1, I1, J1, P1, a1, b1⟩ := k_step (I := I) (J := J) (P := P) (g := g) (j := 1) (q := q) (t := 21) (v := (.long 0)) (ks := List.replicate 12 1) h (by omega) (by omega) (by omega) z_mkl
  have h1 : S1 g = some (8, k_Ks) := (a1.1 g (by omega)).trans h
  obtain ⟨S2, I2, J2, P2, a2, b2⟩ := k_step (I := I1) (J := J1) (P := P1) (g := g) (j := 2) (q := q + 12) (t := 21) (v := (.long 0)) (ks := List.replicate 12 1) h1 (by omega) (by omega) (by omega) z_mkl
  have h2 : S2 g = some (8, k_Ks) := (a2.1 g (by omega)).trans h1
  obtain ⟨S3, I3, J3, P3, a3, b3⟩ := k_step (I := I2) (J := J2) (P := P2) (g := g) (j := 3) (q := q + 12 + 12) (t := 21) (v := (.long 0)) (ks := List.replicate 12 1) h2 (by omega) (by omega) (by omega) z_mkl
  have h3 : S3 g = some (8, k_Ks) := (a3.1 g (by omega)).trans h2
  obtain ⟨S4, I4, J4, P4, a4, b4⟩ := k_step (I := I3) (J := J3) (P := P3) (g := g) (j := 4) (q := q + 12 + 12 + 12) (t := 22) (v := (.int 0)) (ks := List.replicate 12 0) h3 (by omega) (by omega) (by omega) z_mki
  have h4 : S4 g = some (8, k_Ks) := (a4.1 g (by omega)).trans h3
  obtain ⟨S5, I5, J5, P5, a5, b5⟩ := k_step (I := I4) (J := J4) (P := P4) (g := g) (j := 5) (q := q + 12 + 12 + 12 + 12) (t := 20) (v := (.int 0)) (ks := List.replicate 12 0) h4 (by omega) (by omega) (by omega) z_mki
  have h5 : S5 g = some (8, k_Ks) := (a5.1 g (by omega)).trans h4
  obtain ⟨S6, I6, J6, P6, a6, b6⟩ := k_step (I := I5) (J := J5) (P := P5) (g := g) (j := 6) (q := q + 12 + 12 + 12 + 12 + 12) (t := 20) (v := (.int 0)) (ks := List.replicate 12 0) h5 (by omega) (by omega) (by omega) z_mki
  have h6 : S6 g = some (8, k_Ks) := (a6.1 g (by omega)).trans h5
  obtain ⟨S7, I7, J7, P7, a7, b7⟩ := k_step (I := I6) (J := J6) (P := P6) (g := g) (j := 7) (q := q + 12 + 12 + 12 + 12 + 12 + 12) (t := 20) (v := (.int 0)) (ks := List.replicate 12 0) h6 (by omega) (by omega) (by omega) z_mki
  have h7 : S7 g = some (8, k_Ks) := (a7.1 g (by omega)).trans h6
  obtain ⟨S8, I8, J8, P8, a8, b8⟩ := k_step (I := I7) (J := J7) (P := P7) (g := g) (j := 8) (q := q + 12 + 12 + 12 + 12 + 12 + 12 + 12) (t := 20) (v := (.int 0)) (ks := List.replicate 12 0) h7 (by omega) (by omega) (by omega) z_mki
  have h8 : S8 g = some (8, k_Ks) := (a8.1 g (by omega)).trans h7
  obtain ⟨S9, I9, J9, P9, a9, b9⟩ := k_step (I := I8) (J := J8) (P := P8) (g := g) (j := 9) (q := q + 12 + 12 + 12 + 12 + 12 + 12 + 12 + 12) (t := 20) (v := (.int 0)) (ks := List.replicate 12 0) h8 (by omega) (by omega) (by omega) z_mki
  have h9 : S9 g = some (8, k_Ks) := (a9.1 g (by omega)).trans h8
  obtain ⟨S10, I10, J10, P10, a10, b10⟩ := k_step (I := I9) (J := J9) (P := P9) (g := g) (j := 10) (q := q + 12 + 12 + 12 + 12 + 12 + 12 + 12 + 12 + 12) (t := 20) (v := (.int 0)) (ks := List.replicate 12 0) h9 (by omega) (by omega) (by omega) z_mki
  have h10 : S10 g = some (8, k_Ks) := (a10.1 g (by omega)).trans h9
  obtain ⟨S', I', J', P', t1, t2, t3⟩ := C_tally0 (S := S10) (I := I10) (J := J10) (P := P10) (n := (g + 11, q + 12 + 12 + 12 + 12 + 12 + 12 + 12 + 12 + 12 + 12)) rfl (by show 8 ≤ g + 11; omega)
  have e11 : S' g = some (8, k_Ks) := (t2 g (by show g < g + 11; omega)).1.1.trans h10
  have go : f_Pa_init g (z_h S I J P (g + 1, q)) = some ((), z_h S' I' J' (z_pu P' g 11 (some (g + 11))) (g + 13, q + 136)) := by
    unfold f_Pa_init
    refine (b1 _).trans ?_
    refine (b2 _).trans ?_
    refine (b3 _).trans ?_
    refine (b4 _).trans ?_
    refine (b5 _).trans ?_
    refine (b6 _).trans ?_
    refine (b7 _).trans ?_
    refine (b8 _).trans ?_
    refine (b9 _).trans ?_
    refine (b10 _).trans ?_
    have e1 : ∀ K : q_H → Nat → Option (Unit × q_H), q_ma (z_h S10 I10 J10 P10 (g + (10 + 1), q + 12 + 12 + 12 + 12 + 12 + 12 + 12 + 12 + 12 + 12)) 9 [.null] K = K (q_mk (z_h S10 I10 J10 P10 (g + 11, q + 12 + 12 + 12 + 12 + 12 + 12 + 12 + 12 + 12 + 12)) 9 [.null]) (g + 11) := fun _ => rfl
    rw [e1, t1, z_sq]
    rw [z_sfr e11 (by omega) rfl, Option.bind_some]
  have ag := fun a (ha : a < g + 11) => t2 a ha
  have lo : ∀ a, a < g → S' a = S a ∧ I' a = I a ∧ J' a = J a := fun a ha => by
    obtain ⟨c1, c2⟩ := ag a (by omega)
    obtain ⟨c3, c4⟩ := c2 rfl
    refine ⟨c1.1.trans ?_, c3.trans ?_, c4.trans ?_⟩
    · rw [a10.1 a (by omega), a9.1 a (by omega), a8.1 a (by omega), a7.1 a (by omega), a6.1 a (by omega), a5.1 a (by omega), a4.1 a (by omega), a3.1 a (by omega), a2.1 a (by omega), a1.1 a (by omega)]
    · rw [a10.2.1 a (by omega), a9.2.1 a (by omega), a8.2.1 a (by omega), a7.2.1 a (by omega), a6.2.1 a (by omega), a5.2.1 a (by omega), a4.2.1 a (by omega), a3.2.1 a (by omega), a2.2.1 a (by omega), a1.2.1 a (by omega)]
    · rw [a10.2.2.1 a (by omega), a9.2.2.1 a (by omega), a8.2.2.1 a (by omega), a7.2.2.1 a (by omega), a6.2.2.1 a (by omega), a5.2.2.1 a (by omega), a4.2.2.1 a (by omega), a3.2.2.1 a (by omega), a2.2.2.1 a (by omega), a1.2.2.1 a (by omega)]
  refine ⟨S', I', J', z_pu P' g 11 (some (g + 11)), go, ⟨e11, fun j h1 h2 => ?_, fun j h1 h2 => ?_, ?_, fun j h1 h2 => ?_, ?_, ?_, ?_⟩, fun a ha => ⟨(lo a ha).1, (lo a ha).2.1, (lo a ha).2.2, ?_⟩, ?_, fun k h1 h2 i => ?_, fun q t hq ht => ?_⟩
  · have cs : j = 1 ∨ j = 2 ∨ j = 3 ∨ j = 4 ∨ j = 5 ∨ j = 6 ∨ j = 7 ∨ j = 8 ∨ j = 9 ∨ j = 10 ∨ j = 11 := by omega
    rcases cs with rfl | rfl | rfl | rfl | rfl | rfl | rfl | rfl | rfl | rfl | rfl
    · rw [z_pu_i (by decide), (ag g (by omega)).1.2, a10.2.2.2.1 g (by omega) 1 (Or.inr (by decide)), a9.2.2.2.1 g (by omega) 1 (Or.inr (by decide)), a8.2.2.2.1 g (by omega) 1 (Or.inr (by decide)), a7.2.2.2.1 g (by omega) 1 (Or.inr (by decide)), a6.2.2.2.1 g (by omega) 1 (Or.inr (by decide)), a5.2.2.2.1 g (by omega) 1 (Or.inr (by decide)), a4.2.2.2.1 g (by omega) 1 (Or.inr (by decide)), a3.2.2.2.1 g (by omega) 1 (Or.inr (by decide)), a2.2.2.2.1 g (by omega) 1 (Or.inr (by decide))]; exact a1.2.2.2.2.1
    · rw [z_pu_i (by decide), (ag g (by omega)).1.2, a10.2.2.2.1 g (by omega) 2 (Or.inr (by decide)), a9.2.2.2.1 g (by omega) 2 (Or.inr (by decide)), a8.2.2.2.1 g (by omega) 2 (Or.inr (by decide)), a7.2.2.2.1 g (by omega) 2 (Or.inr (by decide)), a6.2.2.2.1 g (by omega) 2 (Or.inr (by decide)), a5.2.2.2.1 g (by omega) 2 (Or.inr (by decide)), a4.2.2.2.1 g (by omega) 2 (Or.inr (by decide)), a3.2.2.2.1 g (by omega) 2 (Or.inr (by decide))]; exact a2.2.2.2.2.1
    · rw [z_pu_i (by decide), (ag g (by omega)).1.2, a10.2.2.2.1 g (by omega) 3 (Or.inr (by decide)), a9.2.2.2.1 g (by omega) 3 (Or.inr (by decide)), a8.2.2.2.1 g (by omega) 3 (Or.inr (by decide)), a7.2.2.2.1 g (by omega) 3 (Or.inr (by decide)), a6.2.2.2.1 g (by omega) 3 (Or.inr (by decide)), a5.2.2.2.1 g (by omega) 3 (Or.inr (by decide)), a4.2.2.2.1 g (by omega) 3 (Or.inr (by decide))]; exact a3.2.2.2.2.1
    · rw [z_pu_i (by decide), (ag g (by omega)).1.2, a10.2.2.2.1 g (by omega) 4 (Or.inr (by decide)), a9.2.2.2.1 g (by omega) 4 (Or.inr (by decide)), a8.2.2.2.1 g (by omega) 4 (Or.inr (by decide)), a7.2.2.2.1 g (by omega) 4 (Or.inr (by decide)), a6.2.2.2.1 g (by omega) 4 (Or.inr (by decide)), a5.2.2.2.1 g (by omega) 4 (Or.inr (by decide))]; exact a4.2.2.2.2.1
    · rw [z_pu_i (by decide), (ag g (by omega)).1.2, a10.2.2.2.1 g (by omega) 5 (Or.inr (by decide)), a9.2.2.2.1 g (by omega) 5 (Or.inr (by decide)), a8.2.2.2.1 g (by omega) 5 (Or.inr (by decide)), a7.2.2.2.1 g (by omega) 5 (Or.inr (by decide)), a6.2.2.2.1 g (by omega) 5 (Or.inr (by decide))]; exact a5.2.2.2.2.1
    · rw [z_pu_i (by decide), (ag g (by omega)).1.2, a10.2.2.2.1 g (by omega) 6 (Or.inr (by decide)), a9.2.2.2.1 g (by omega) 6 (Or.inr (by decide)), a8.2.2.2.1 g (by omega) 6 (Or.inr (by decide)), a7.2.2.2.1 g (by omega) 6 (Or.inr (by decide))]; exact a6.2.2.2.2.1
    · rw [z_pu_i (by decide), (ag g (by omega)).1.2, a10.2.2.2.1 g (by omega) 7 (Or.inr (by decide)), a9.2.2.2.1 g (by omega) 7 (Or.inr (by decide)), a8.2.2.2.1 g (by omega) 7 (Or.inr (by decide))]; exact a7.2.2.2.2.1
    · rw [z_pu_i (by decide), (ag g (by omega)).1.2, a10.2.2.2.1 g (by omega) 8 (Or.inr (by decide)), a9.2.2.2.1 g (by omega) 8 (Or.inr (by decide))]; exact a8.2.2.2.2.1
    · rw [z_pu_i (by decide), (ag g (by omega)).1.2, a10.2.2.2.1 g (by omega) 9 (Or.inr (by decide))]; exact a9.2.2.2.2.1
    · rw [z_pu_i (by decide), (ag g (by omega)).1.2]; exact a10.2.2.2.2.1
    · exact z_pu_s _ _ _ _
  · have cs : j = 1 ∨ j = 2 ∨ j = 3 := by omega
    rcases cs with rfl | rfl | rfl
    · exact (ag (g + 1) (by omega)).1.1.trans (by rw [a10.1 (g + 1) (by omega), a9.1 (g + 1) (by omega), a8.1 (g + 1) (by omega), a7.1 (g + 1) (by omega), a6.1 (g + 1) (by omega), a5.1 (g + 1) (by omega), a4.1 (g + 1) (by omega), a3.1 (g + 1) (by omega), a2.1 (g + 1) (by omega)]; exact a1.2.2.2.2.2.1)
    · exact (ag (g + 2) (by omega)).1.1.trans (by rw [a10.1 (g + 2) (by omega), a9.1 (g + 2) (by omega), a8.1 (g + 2) (by omega), a7.1 (g + 2) (by omega), a6.1 (g + 2) (by omega), a5.1 (g + 2) (by omega), a4.1 (g + 2) (by omega), a3.1 (g + 2) (by omega)]; exact a2.2.2.2.2.2.1)
    · exact (ag (g + 3) (by omega)).1.1.trans (by rw [a10.1 (g + 3) (by omega), a9.1 (g + 3) (by omega), a8.1 (g + 3) (by omega), a7.1 (g + 3) (by omega), a6.1 (g + 3) (by omega), a5.1 (g + 3) (by omega), a4.1 (g + 3) (by omega)]; exact a3.2.2.2.2.2.1)
  · exact (ag (g + 4) (by omega)).1.1.trans (by rw [a10.1 (g + 4) (by omega), a9.1 (g + 4) (by omega), a8.1 (g + 4) (by omega), a7.1 (g + 4) (by omega), a6.1 (g + 4) (by omega), a5.1 (g + 4) (by omega)]; exact a4.2.2.2.2.2.1)
  · have cs : j = 5 ∨ j = 6 ∨ j = 7 ∨ j = 8 ∨ j = 9 ∨ j = 10 := by omega
    rcases cs with rfl | rfl | rfl | rfl | rfl | rfl
    · exact (ag (g + 5) (by omega)).1.1.trans (by rw [a10.1 (g + 5) (by omega), a9.1 (g + 5) (by omega), a8.1 (g + 5) (by omega), a7.1 (g + 5) (by omega), a6.1 (g + 5) (by omega)]; exact a5.2.2.2.2.2.1)
    · exact (ag (g + 6) (by omega)).1.1.trans (by rw [a10.1 (g + 6) (by omega), a9.1 (g + 6) (by omega), a8.1 (g + 6) (by omega), a7.1 (g + 6) (by omega)]; exact a6.2.2.2.2.2.1)
    · exact (ag (g + 7) (by omega)).1.1.trans (by rw [a10.1 (g + 7) (by omega), a9.1 (g + 7) (by omega), a8.1 (g + 7) (by omega)]; exact a7.2.2.2.2.2.1)
    · exact (ag (g + 8) (by omega)).1.1.trans (by rw [a10.1 (g + 8) (by omega), a9.1 (g + 8) (by omega)]; exact a8.2.2.2.2.2.1)
    · exact (ag (g + 9) (by omega)).1.1.trans (by rw [a10.1 (g + 9) (by omega)]; exact a9.2.2.2.2.2.1)
    · exact (ag (g + 10) (by omega)).1.1.trans a10.2.2.2.2.2.1
  · exact t3.1
  · rw [z_pu_a (by omega)]; exact t3.2.1
  · exact t3.2.2.1
  · funext i
    rw [z_pu_a (by omega), (ag a (by omega)).1.2, a10.2.2.2.1 a (by omega) i (Or.inl (by omega)), a9.2.2.2.1 a (by omega) i (Or.inl (by omega)), a8.2.2.2.1 a (by omega) i (Or.inl (by omega)), a7.2.2.2.1 a (by omega) i (Or.inl (by omega)), a6.2.2.2.1 a (by omega) i (Or.inl (by omega)), a5.2.2.2.1 a (by omega) i (Or.inl (by omega)), a4.2.2.2.1 a (by omega) i (Or.inl (by omega)), a3.2.2.2.1 a (by omega) i (Or.inl (by omega)), a2.2.2.2.1 a (by omega) i (Or.inl (by omega)), a1.2.2.2.1 a (by omega) i (Or.inl (by omega))]
  · rw [((ag g (by omega)).2 rfl).1, a10.2.1 g (by omega), a9.2.1 g (by omega), a8.2.1 g (by omega), a7.2.1 g (by omega), a6.2.1 g (by omega), a5.2.1 g (by omega), a4.2.1 g (by omega), a3.2.1 g (by omega), a2.2.1 g (by omega), a1.2.1 g (by omega)]
  · have cs : k = 1 ∨ k = 2 ∨ k = 3 ∨ k = 4 ∨ k = 5 ∨ k = 6 ∨ k = 7 ∨ k = 8 ∨ k = 9 ∨ k = 10 := by omega
    rcases cs with rfl | rfl | rfl | rfl | rfl | rfl | rfl | rfl | rfl | rfl
    · rw [((ag (g + 1) (by omega)).2 rfl).1, ((ag (g + 1) (by omega)).2 rfl).2, a10.2.1 (g + 1) (by omega), a10.2.2.1 (g + 1) (by omega), a9.2.1 (g + 1) (by omega), a9.2.2.1 (g + 1) (by omega), a8.2.1 (g + 1) (by omega), a8.2.2.1 (g + 1) (by omega), a7.2.1 (g + 1) (by omega), a7.2.2.1 (g + 1) (by omega), a6.2.1 (g + 1) (by omega), a6.2.2.1 (g + 1) (by omega), a5.2.1 (g + 1) (by omega), a5.2.2.1 (g + 1) (by omega), a4.2.1 (g + 1) (by omega), a4.2.2.1 (g + 1) (by omega), a3.2.1 (g + 1) (by omega), a3.2.2.1 (g + 1) (by omega), a2.2.1 (g + 1) (by omega), a2.2.2.1 (g + 1) (by omega)]; exact ⟨a1.2.2.2.2.2.2.1 i, a1.2.2.2.2.2.2.2 i⟩
    · rw [((ag (g + 2) (by omega)).2 rfl).1, ((ag (g + 2) (by omega)).2 rfl).2, a10.2.1 (g + 2) (by omega), a10.2.2.1 (g + 2) (by omega), a9.2.1 (g + 2) (by omega), a9.2.2.1 (g + 2) (by omega), a8.2.1 (g + 2) (by omega), a8.2.2.1 (g + 2) (by omega), a7.2.1 (g + 2) (by omega), a7.2.2.1 (g + 2) (by omega), a6.2.1 (g + 2) (by omega), a6.2.2.1 (g + 2) (by omega), a5.2.1 (g + 2) (by omega), a5.2.2.1 (g + 2) (by omega), a4.2.1 (g + 2) (by omega), a4.2.2.1 (g + 2) (by omega), a3.2.1 (g + 2) (by omega), a3.2.2.1 (g + 2) (by omega)]; exact ⟨a2.2.2.2.2.2.2.1 i, a2.2.2.2.2.2.2.2 i⟩
    · rw [((ag (g + 3) (by omega)).2 rfl).1, ((ag (g + 3) (by omega)).2 rfl).2, a10.2.1 (g + 3) (by omega), a10.2.2.1 (g + 3) (by omega), a9.2.1 (g + 3) (by omega), a9.2.2.1 (g + 3) (by omega), a8.2.1 (g + 3) (by omega), a8.2.2.1 (g + 3) (by omega), a7.2.1 (g + 3) (by omega), a7.2.2.1 (g + 3) (by omega), a6.2.1 (g + 3) (by omega), a6.2.2.1 (g + 3) (by omega), a5.2.1 (g + 3) (by omega), a5.2.2.1 (g + 3) (by omega), a4.2.1 (g + 3) (by omega), a4.2.2.1 (g + 3) (by omega)]; exact ⟨a3.2.2.2.2.2.2.1 i, a3.2.2.2.2.2.2.2 i⟩
    · rw [((ag (g + 4) (by omega)).2 rfl).1, ((ag (g + 4) (by omega)).2 rfl).2, a10.2.1 (g + 4) (by omega), a10.2.2.1 (g + 4) (by omega), a9.2.1 (g + 4) (by omega), a9.2.2.1 (g + 4) (by omega), a8.2.1 (g + 4) (by omega), a8.2.2.1 (g + 4) (by omega), a7.2.1 (g + 4) (by omega), a7.2.2.1 (g + 4) (by omega), a6.2.1 (g + 4) (by omega), a6.2.2.1 (g + 4) (by omega), a5.2.1 (g + 4) (by omega), a5.2.2.1 (g + 4) (by omega)]; exact ⟨a4.2.2.2.2.2.2.1 i, a4.2.2.2.2.2.2.2 i⟩
    · rw [((ag (g + 5) (by omega)).2 rfl).1, ((ag (g + 5) (by omega)).2 rfl).2, a10.2.1 (g + 5) (by omega), a10.2.2.1 (g + 5) (by omega), a9.2.1 (g + 5) (by omega), a9.2.2.1 (g + 5) (by omega), a8.2.1 (g + 5) (by omega), a8.2.2.1 (g + 5) (by omega), a7.2.1 (g + 5) (by omega), a7.2.2.1 (g + 5) (by omega), a6.2.1 (g + 5) (by omega), a6.2.2.1 (g + 5) (by omega)]; exact ⟨a5.2.2.2.2.2.2.1 i, a5.2.2.2.2.2.2.2 i⟩
    · rw [((ag (g + 6) (by omega)).2 rfl).1, ((ag (g + 6) (by omega)).2 rfl).2, a10.2.1 (g + 6) (by omega), a10.2.2.1 (g + 6) (by omega), a9.2.1 (g + 6) (by omega), a9.2.2.1 (g + 6) (by omega), a8.2.1 (g + 6) (by omega), a8.2.2.1 (g + 6) (by omega), a7.2.1 (g + 6) (by omega), a7.2.2.1 (g + 6) (by omega)]; exact ⟨a6.2.2.2.2.2.2.1 i, a6.2.2.2.2.2.2.2 i⟩
    · rw [((ag (g + 7) (by omega)).2 rfl).1, ((ag (g + 7) (by omega)).2 rfl).2, a10.2.1 (g + 7) (by omega), a10.2.2.1 (g + 7) (by omega), a9.2.1 (g + 7) (by omega), a9.2.2.1 (g + 7) (by omega), a8.2.1 (g + 7) (by omega), a8.2.2.1 (g + 7) (by omega)]; exact ⟨a7.2.2.2.2.2.2.1 i, a7.2.2.2.2.2.2.2 i⟩
    · rw [((ag (g + 8) (by omega)).2 rfl).1, ((ag (g + 8) (by omega)).2 rfl).2, a10.2.1 (g + 8) (by omega), a10.2.2.1 (g + 8) (by omega), a9.2.1 (g + 8) (by omega), a9.2.2.1 (g + 8) (by omega)]; exact ⟨a8.2.2.2.2.2.2.1 i, a8.2.2.2.2.2.2.2 i⟩
    · rw [((ag (g + 9) (by omega)).2 rfl).1, ((ag (g + 9) (by omega)).2 rfl).2, a10.2.1 (g + 9) (by omega), a10.2.2.1 (g + 9) (by omega)]; exact ⟨a9.2.2.2.2.2.2.1 i, a9.2.2.2.2.2.2.2 i⟩
    · rw [((ag (g + 10) (by omega)).2 rfl).1, ((ag (g + 10) (by omega)).2 rfl).2]; exact ⟨a10.2.2.2.2.2.2.1 i, a10.2.2.2.2.2.2.2 i⟩
  · exact t3.2.2.2 q t hq ht
end
