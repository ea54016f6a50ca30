/-! READ: the reference reads all lines: the loop. -/
section
variable {S : z_SH} {P : z_MP} {n : Nat × Nat} {T : k_T}
theorem k_all_g (T : k_T) (f p : Nat) (D : z_D) (kk : ¬ k_k T p = 0) : k_all T (f + 1) p D = match k_go T p D with
    | some c => .inl (k_fl T c p)
    | none => (match k_line T p (if k_ix T k_w1 p = 9 then z_n 1 else z_n 0) D with
        | .inl F => .inl F
        | .inr (p2, D2) => k_all T f p2 (D2.1 + 1, D2.2)) := by
  rw [k_all_s, if_neg kk]
  unfold k_go
  by_cases q : ¬ (k_ix T k_w1 p = 8 ∨ k_ix T k_w1 p = 9)
  · rw [if_pos q, if_pos q]
  · rw [if_neg q, if_neg q]
    by_cases q2 : D.1 = 12
    · rw [if_pos q2, if_pos q2]
    · rw [if_neg q2, if_neg q2]
      rfl
theorem k_go_12 {T : k_T} {p : Nat} {D : z_D} (h : k_go T p D = none) : ¬ D.1 = 12 := by
  unfold k_go at h
  split at h
  · cases h
  · split at h
    · cases h
    · assumption
set_option maxRecDepth 100000 in
set_option maxHeartbeats 4000000 in
theorem M_readS (hS : z_St S) (hP : z_Pt P) (s : Int32) (f m : Nat) (ih : k_rS S P n T s f m) : k_rS S P n T s (f + 1) (m + 1) := by
  intro p D I J hp hT k h ok df
  have k4 : k_k T p ≤ 4 := by unfold k_k; repeat (first | omega | split)
  by_cases kk : k_k T p = 0
  · have r21 : q_gi (q_gf (z_h S I J P n) 12 83 21) = some (z_n (k_k T p)) := by rw [z_gi (s_83 hS) rfl, k.2.2.1]
    refine Or.inr ⟨p, D, I, J, by rw [k_all_s, if_pos kk], ?_, k_mf.rfl' I J, h, ok⟩
    rw [f_Mo_read_L27, r21, Option.bind_some, if_pos (by rw [kk]; rfl)]
  have E := M_readE (n := n) (s := s) hS hP k h ok kk m
  rw [E, k_all_g T f p D kk]
  clear E
  have ln := M_line (n := n) hS hP hT hp k h ok
  have g12 := @k_go_12 T p D
  generalize k_go T p D = G at *
  rcases G with _ | c
  · have l12 : D.1 < 12 := by have := ok.1; have := g12 rfl; omega
    obtain ⟨r, X, Z, a1, a2, a3⟩ := ln l12
    have lo : k_lr T D (k_line T p (if k_ix T k_w1 p = 9 then z_n 1 else z_n 0) D) := by
      by_cases e : k_ix T k_w1 p = 9
      · rw [if_pos e]; exact k_line_ok hT.1 hp l12 (by omega)
      · rw [if_neg e]; exact k_line_ok hT.1 hp l12 (by omega)
    dsimp only
    rw [a1, z_sq]
    generalize k_line T p (if k_ix T k_w1 p = 9 then z_n 1 else z_n 0) D = O at *
    rcases O with F | ⟨p2, D2⟩
    · obtain ⟨b1, b2⟩ := a3
      have r24 : q_gi (q_gf (z_h S X Z P n) 12 83 24) = some (z_n F) := by rw [z_gi (s_83 hS) rfl, b2]
      rw [b1, if_pos rfl, r24, Option.bind_some]
      exact Or.inl ⟨F, X, Z, rfl, rfl, a2⟩
    · obtain ⟨b1, b2, b3, b4⟩ := a3
      obtain ⟨o1, o2, o3⟩ := lo
      rw [b1, if_neg (by decide)]
      rcases ih p2 (D2.1 + 1, D2.2) X Z o1 (a2.hd hT) b3 b4 (k_rc.ok (o2.ok ok) o3 (by omega)) (by show D2.1 + 1 + f = 13; omega) with ⟨F, X2, Z2, g1, g2, g3⟩ | ⟨p', D', X2, Z2, g1, g2, g3, g4, g5⟩
      · exact Or.inl ⟨F, X2, Z2, g1, g2, a2.trans g3⟩
      · exact Or.inr ⟨p', D', X2, Z2, g1, g2, a2.trans g3, g4, g5⟩
  · exact Or.inl ⟨_, _, _, rfl, rfl, k_mf_24 _⟩
theorem M_readL (hS : z_St S) (hP : z_Pt P) (s : Int32) : ∀ f m, f ≤ m → k_rS S P n T s f m
  | 0, m, hm => fun p D I J hp hT k h ok df => by
    have := ok.1
    omega
  | f + 1, 0, hm => absurd hm (by omega)
  | f + 1, m + 1, hm => M_readS hS hP s f m (M_readL hS hP s f m (by omega))
end
