/-! READ: the class reads a line's head. -/
/-- a page between its lines -/
def k_pz (I : z_MI) (J : z_MJ) (g : Nat) (D : z_D) : Prop := z_pd I J g D ∧ k_nw I J g D.1
theorem d_hd_eq (D : z_D) (sx a : Int32) (x : Int64) : d_eq D (d_hd D sx a x) := ⟨rfl, fun l hl => ⟨fun k' _ => by
  show _ = if l = D.1 then _ else _
  rw [if_neg (by omega)], fun k' _ => by
  show _ = if l = D.1 then _ else _
  rw [if_neg (by omega)]⟩⟩
theorem d_hd_i (D : z_D) (sx a : Int32) (x : Int64) (k : Nat) : (d_hd D sx a x).2.1 k D.1 = if k = 0 then sx else if k = 1 then a else if k = 4 then z_n 0 else -z_n 1 := if_pos rfl
theorem d_hd_j (D : z_D) (sx a : Int32) (x : Int64) (k : Nat) : (d_hd D sx a x).2.2 k D.1 = if k = 0 then x else 0 := if_pos rfl
theorem d_hd_t (D : z_D) (sx a : Int32) (x : Int64) : d_tg (d_hd D sx a x) D.1 = 0 ∧ k_v4 (d_hd D sx a x) := by
  refine ⟨?_, 0, by decide, d_hd_i _ _ _ _ 4⟩
  unfold d_tg
  rw [d_hd_i, d_hd_i, d_hd_i, d_hd_j, d_hd_j]
  rfl
/-- what is sure of a head's reading -/
def k_hk (T : k_T) (D : z_D) (O : k_O) : Prop := match O with
  | .inl F => 0 < F ∧ F < 20000
  | .inr (p', D') => p' ≤ T.1 ∧ D'.1 = D.1 ∧ k_v4 D' ∧ d_tg D' D.1 = 0
theorem k_head_ok {T : k_T} {p : Nat} {D : z_D} {sx : Int32} (hT : T.1 ≤ 1000) (hp : p ≤ T.1) : k_hk T D (k_head T p sx D) := by
  have h1 := (k_e_le hp).2
  have h2 := (k_e_le h1).2
  have h3 := (k_e_le h2).2
  unfold k_head
  split
  · exact k_fl_ok hT h1 (by omega) (by omega)
  split
  · exact k_fl_ok hT h1 (by omega) (by omega)
  split
  · exact k_fl_ok hT h2 (by omega) (by omega)
  split
  · exact k_fl_ok hT h2 (by omega) (by omega)
  · obtain ⟨t1, t2⟩ := d_hd_t D sx (k_vl T (k_e T (k_e T p))).toInt32 (k_vl T (k_e T p))
    exact ⟨h3, rfl, t2, t1⟩
section
variable {S : z_SH} {I : z_MI} {J : z_MJ} {P : z_MP} {K : Nat → Bool} {n : Nat × Nat} {T : k_T} {r g p t : Nat} {D : z_D}
theorem k_pz.f {X : z_MI} {Z : z_MJ} (h : k_pz I J g D) (hg : 131 ≤ g) (e : ∀ a, a ≠ 9 → X a = I a) (e2 : ∀ a, a ≠ 9 → Z a = J a) : k_pz X Z g D :=
  ⟨k_pd h.1 (fun l hl k' _ _ => ⟨by rw [e _ (by omega)], by rw [e2 _ (by omega)]⟩) (by rw [e _ (by omega)]), fun l h1 h2 => by rw [e _ (by omega), e2 _ (by omega), e2 _ (by omega)]; exact h.2 l h1 h2⟩
set_option maxRecDepth 100000 in
set_option maxHeartbeats 4000000 in
theorem C_head (hS : z_St S) (hP : z_Pt P) (h : k_cl S P r g) (s : k_st I J T) (hp : p ≤ T.1) (h2 : I 9 2 = z_n (k_e T p)) (pz : k_pz I J g D) (l12 : D.1 < 12) {sx : Nat} (hx : sx ≤ 1) :
    ∃ r' X Z, f_Sr_parseHead r (z_n D.1) (z_n sx) (z_h S I J P n) = some (r', z_h S X Z P n) ∧ k_fr g I J X Z ∧ k_an T g D r' X Z (k_head T p (z_n sx) D) := by
  have h' := h
  obtain ⟨h0, h1, hr0, hr1, hr2, hg⟩ := h
  have r0 : ∀ I J, q_gr (q_gf (z_h S I J P n) 7 r 0) = some 9 := fun _ _ => z_gr h1 rfl hr0
  have r2 : ∀ I J, q_gr (q_gf (z_h S I J P n) 7 r 2) = some g := fun _ _ => z_gr h1 rfl hr2
  have o9 := fun I J => z_ob (I := I) (J := J) (P := P) (n := n) (s_9 hS)
  have o7 := fun I J => z_ob (I := I) (J := J) (P := P) (n := n) h1
  have o8 := fun I J => z_ob (I := I) (J := J) (P := P) (n := n) h0.1
  have rp := z_ps_r h0
  have w4 := fun I J v => z_sai (I := I) (J := J) (P := P) (n := n) (v := v) h0.2.2.2.1 (show 8 ≤ g + 4 by omega) (show D.1 < 2147483648 by omega) (z_rpl l12)
  have w5 := fun I J v => z_sai (I := I) (J := J) (P := P) (n := n) (v := v) (h0.2.2.2.2.1 5 (by omega) (by omega)) (by omega) (show D.1 < 2147483648 by omega) (z_rpl l12)
  have w7 := fun I J v => z_sai (I := I) (J := J) (P := P) (n := n) (v := v) (h0.2.2.2.2.1 7 (by omega) (by omega)) (by omega) (show D.1 < 2147483648 by omega) (z_rpl l12)
  have w8 := fun I J v => z_sai (I := I) (J := J) (P := P) (n := n) (v := v) (h0.2.2.2.2.1 8 (by omega) (by omega)) (by omega) (show D.1 < 2147483648 by omega) (z_rpl l12)
  have w1 := fun I J v => z_sal (I := I) (J := J) (P := P) (n := n) (v := v) (h0.2.2.1 1 (by omega) (by omega)) (by omega) (show D.1 < 2147483648 by omega) (z_rpl l12)
  have e01 : ¬ ¬ (z_n sx = 0 ∨ z_n sx = 1) := by
    have : sx = 0 ∨ sx = 1 := by omega
    rcases this with rfl | rfl
    · exact fun f => f (Or.inl rfl)
    · exact fun f => f (Or.inr rfl)
  -- the first three rows
  have f3 : k_fr g I J (z_up (z_up (z_up I (g + 4) D.1 (z_n sx)) (g + 7) D.1 (-z_n 1)) (g + 8) D.1 (-z_n 1)) J := (k_fr_i (by omega) hg _).trans ((k_fr_i (by omega) hg _).trans (k_fr_i (by omega) hg _))
  have s3 := f3.st hg s
  have f92 : z_up (z_up (z_up I (g + 4) D.1 (z_n sx)) (g + 7) D.1 (-z_n 1)) (g + 8) D.1 (-z_n 1) 9 2 = z_n (k_e T p) := by rw [z_up_a (by omega), z_up_a (by omega), z_up_a (by omega)]; exact h2
  have pz3 : k_pz (z_up (z_up (z_up I (g + 4) D.1 (z_n sx)) (g + 7) D.1 (-z_n 1)) (g + 8) D.1 (-z_n 1)) J g D := by
    refine ⟨k_pd pz.1 (fun l hl k' _ _ => ⟨?_, rfl⟩) ?_, fun l h1 h2 => ?_⟩
    · rw [z_up_i (by omega), z_up_i (by omega), z_up_i (by omega)]
    · rw [z_up_a (by omega), z_up_a (by omega), z_up_a (by omega)]
    · rw [z_up_a (by omega), z_up_a (by omega), z_up_a (by omega)]; exact pz.2 l h1 h2
  have v4 : z_up (z_up (z_up I (g + 4) D.1 (z_n sx)) (g + 7) D.1 (-z_n 1)) (g + 8) D.1 (-z_n 1) (g + 4) D.1 = z_n sx := by rw [z_up_a (by omega), z_up_a (by omega), z_up_s]
  have v7 : z_up (z_up (z_up I (g + 4) D.1 (z_n sx)) (g + 7) D.1 (-z_n 1)) (g + 8) D.1 (-z_n 1) (g + 7) D.1 = -z_n 1 := by rw [z_up_a (by omega), z_up_s]
  have v8 : z_up (z_up (z_up I (g + 4) D.1 (z_n sx)) (g + 7) D.1 (-z_n 1)) (g + 8) D.1 (-z_n 1) (g + 8) D.1 = -z_n 1 := z_up_s _ _ _ _
  have pre : ∀ X, f_Ta_advance 9 (z_h S (z_up (z_up (z_up I (g + 4) D.1 (z_n sx)) (g + 7) D.1 (-z_n 1)) (g + 8) D.1 (-z_n 1)) J P n) = X → f_Sr_parseHead r (z_n D.1) (z_n sx) (z_h S I J P n) = q_sq X fun (_ : Unit) σ13 => (q_ob σ13 7 r).bind fun w15 => q_sq (f_Sr_isName r σ13) fun x17 σ16 => if x17 = z_n 0 then ((q_gr (q_gf σ16 7 r 0)).bind fun x19 => (q_ob σ16 1 x19).bind fun w20 => q_sq (f_Ta_fault x19 (z_n 1) σ16) fun x22 σ21 => some (x22, σ21)) else ((q_gr (q_gf σ16 7 r 2)).bind fun x23 => (q_gr (q_gf σ16 7 r 0)).bind fun x24 => (q_gl' (q_gf σ16 1 x24 5)).bind fun x25 => (q_ob σ16 8 x23).bind fun w26 => q_sq (f_Pa_lineOf x23 x25 σ16) fun x28 σ27 => if x28 = -z_n 1 then ((q_gr (q_gf σ27 7 r 2)).bind fun x30 => (q_gr (q_gf σ27 8 x30 1)).bind fun x31 => (q_gr (q_gf σ27 7 r 0)).bind fun x32 => (q_gl' (q_gf σ27 1 x32 5)).bind fun x33 => (q_sa σ27 21 x31 (z_n D.1) (.long x33)).bind fun σ34 => (q_gr (q_gf σ34 7 r 0)).bind fun x35 => (q_ob σ34 1 x35).bind fun w36 => q_sq (f_Ta_advance x35 σ34) fun (_ : Unit) σ37 => (q_gr (q_gf σ37 7 r 0)).bind fun x39 => (q_gi (q_gf σ37 1 x39 3)).bind fun x40 => if x40 = z_n 2 then ((q_gr (q_gf σ37 7 r 0)).bind fun x42 => (q_gl' (q_gf σ37 1 x42 5)).bind fun x43 => if (120 : Int64) < x43 then ((q_gr (q_gf σ37 7 r 0)).bind fun x45 => (q_ob σ37 1 x45).bind fun w46 => q_sq (f_Ta_fault x45 (z_n 4) σ37) fun x48 σ47 => some (x48, σ47)) else ((q_gr (q_gf σ37 7 r 2)).bind fun x49 => (q_gr (q_gf σ37 8 x49 5)).bind fun x50 => (q_gr (q_gf σ37 7 r 0)).bind fun x51 => (q_gl' (q_gf σ37 1 x51 5)).bind fun x52 => (q_sa σ37 20 x50 (z_n D.1) (.int x52.toInt32)).bind fun σ53 => some (z_n 0, σ53))) else ((q_gr (q_gf σ37 7 r 0)).bind fun x54 => (q_ob σ37 1 x54).bind fun w55 => q_sq (f_Ta_fault x54 (z_n 1) σ37) fun x57 σ56 => some (x57, σ56))) else ((q_gr (q_gf σ27 7 r 0)).bind fun x58 => (q_ob σ27 1 x58).bind fun w59 => q_sq (f_Ta_fault x58 (z_n 3) σ27) fun x61 σ60 => some (x61, σ60))) := by
    intro X hX
    rw [← hX]
    unfold f_Sr_parseHead
    rw [r2, Option.bind_some, rp.2.2.2.2.2.2.1, Option.bind_some, if_neg e01, w4, Option.bind_some, r2, Option.bind_some, rp.2.2.2.2.2.2.2.2.2.1, Option.bind_some, show (-1 : Int32) = -z_n 1 from rfl, w7, Option.bind_some, r2, Option.bind_some, rp.2.2.2.2.2.2.2.2.2.2.1, Option.bind_some, w8, Option.bind_some, r0, Option.bind_some, o9, Option.bind_some]
    rfl
  generalize z_up (z_up (z_up I (g + 4) D.1 (z_n sx)) (g + 7) D.1 (-z_n 1)) (g + 8) D.1 (-z_n 1) = X3 at *
  have le1 := (k_e_le hp).2
  have le2 := (k_e_le le1).2
  obtain ⟨X1, Z1, a1, a2, a3, a4, a5⟩ := C_adv (J := J) (n := n) hS hP s3.1 s3.2.1 le1 f92
  rw [pre _ a1, z_sq, o7, Option.bind_some]
  clear pre
  have f1 : k_fr g I J X1 Z1 := f3.trans (k_fr_9 a2 a3 a4)
  have s1 := f1.st hg s
  have pz1 := pz3.f hg a2 a4
  have nm := C_isName (n := n) hS hP h' s1 a5
  have ln := C_lineOf (n := n) (x := k_vl T (k_e T p)) h0 pz1.1 (by omega)
  have r5 : q_gl' (q_gf (z_h S X1 Z1 P n) 1 9 5) = some (k_vl T (k_e T p)) := by rw [z_gl (s_9 hS) rfl, a5.2.2.2]
  unfold k_head
  rw [nm, z_sq]
  by_cases q : k_nm T (k_e T p) = true
  · rw [if_neg (show ¬ ¬ k_nm T (k_e T p) = true from fun e => e q), z_b_t q, if_neg (by decide), r2, Option.bind_some, r0, Option.bind_some, r5, Option.bind_some, o8, Option.bind_some, ln, z_sq]
    by_cases q2 : d_nm (k_vl T (k_e T p)) D < D.1
    · rw [if_pos q2, if_pos q2, if_neg (by rw [z_ne1 (by omega)]; exact id), r0, Option.bind_some, o9, Option.bind_some, C_fault (T := T) (p := k_e T p) hS a5.2.2.1 3, z_sq]
      exact ⟨_, X1, Z1, rfl, f1, rfl⟩
    · rw [if_neg q2, if_neg q2, if_pos rfl, r2, Option.bind_some, rp.2.2.2.1, Option.bind_some, r0, Option.bind_some, r5, Option.bind_some, w1, Option.bind_some, r0, Option.bind_some, o9, Option.bind_some]
      have f1j : k_fr g I J X1 (z_uj Z1 (g + 1) D.1 (k_vl T (k_e T p))) := f1.trans (k_fr_j (by omega) hg _)
      have s1j := f1j.st hg s
      obtain ⟨X2, Z2, b1, b2, b3, b4, b5⟩ := C_adv (J := z_uj Z1 (g + 1) D.1 (k_vl T (k_e T p))) (n := n) hS hP s1j.1 s1j.2.1 le2 a5.1
      have f2 : k_fr g I J X2 Z2 := f1j.trans (k_fr_9 b2 b3 b4)
      have r3 : q_gi (q_gf (z_h S X2 Z2 P n) 1 9 3) = some (z_n (k_k T (k_e T (k_e T p)))) := by rw [z_gi (s_9 hS) rfl, b5.2.1]
      have r5 : q_gl' (q_gf (z_h S X2 Z2 P n) 1 9 5) = some (k_vl T (k_e T (k_e T p))) := by rw [z_gl (s_9 hS) rfl, b5.2.2.2]
      have kk : k_k T (k_e T (k_e T p)) ≤ 4 := by unfold k_k; repeat (first | omega | split)
      rw [b1, z_sq, r0, Option.bind_some, r3, Option.bind_some]
      by_cases q3 : k_k T (k_e T (k_e T p)) = 2
      · rw [if_neg (show ¬ ¬ k_k T (k_e T (k_e T p)) = 2 from fun e => e q3), q3, if_pos rfl, Option.bind_some, r5, Option.bind_some, show (120 : Int64) = z_z 120 from rfl]
        by_cases q4 : z_z 120 < k_vl T (k_e T (k_e T p))
        · rw [if_pos q4, if_pos q4, Option.bind_some, o9, Option.bind_some, C_fault (T := T) (p := k_e T (k_e T p)) hS b5.2.2.1 4, z_sq]
          exact ⟨_, X2, Z2, rfl, f2, rfl⟩
        · rw [if_neg q4, if_neg q4, r2, Option.bind_some, rp.2.2.2.2.2.2.2.1, Option.bind_some, Option.bind_some, r5, Option.bind_some, w5, Option.bind_some]
          refine ⟨_, _, Z2, rfl, f2.trans (k_fr_i (k := 5) (by omega) hg D.1), rfl, rfl, ?_, (d_hd_t _ _ _ _).2, ?_⟩
          · rw [(d_hd_t _ _ _ _).1]
            have t0 := pz1.2
            refine ⟨(k_pd pz1.1 (fun l hl k' _ _ => ⟨?_, ?_⟩) ?_).deq (d_hd_eq D _ _ _), ⟨fun k hk => ?_, ?_, ?_, ?_, ?_, ?_⟩, fun l h1 h2 => ?_, l12⟩
            · rw [z_up_i (by omega), b2 _ (by omega)]
            · rw [b4 _ (by omega), z_uj_i (by omega)]
            · rw [z_up_a (by omega), b2 _ (by omega)]
            · show Z2 (g + 1 + k) D.1 = (d_hd D _ _ _).2.2 k D.1
              rw [d_hd_j, b4 _ (by omega)]
              have cs : k = 0 ∨ k = 1 ∨ k = 2 := by omega
              rcases cs with rfl | rfl | rfl
              · exact z_uj_s _ _ _ _
              · rw [z_uj_a (by omega)]; exact (t0 D.1 (Nat.le_refl _) l12).2.1
              · rw [z_uj_a (by omega)]; exact (t0 D.1 (Nat.le_refl _) l12).2.2
            · show _ = (d_hd D _ _ _).2.1 0 D.1
              rw [d_hd_i, if_pos rfl, z_up_a (by omega), b2 _ (by omega), a2 _ (by omega)]; exact v4
            · show _ = (d_hd D _ _ _).2.1 1 D.1
              rw [d_hd_i, if_neg (by decide), if_pos rfl]; exact z_up_s _ _ _ _
            · rw [z_up_a (by omega), b2 _ (by omega)]; exact (t0 D.1 (Nat.le_refl _) l12).1
            · show _ = (d_hd D _ _ _).2.1 2 D.1
              rw [d_hd_i, if_neg (by decide), if_neg (by decide), if_neg (by decide), z_up_a (by omega), b2 _ (by omega), a2 _ (by omega)]; exact v7
            · show _ = (d_hd D _ _ _).2.1 3 D.1
              rw [d_hd_i, if_neg (by decide), if_neg (by decide), if_neg (by decide), z_up_a (by omega), b2 _ (by omega), a2 _ (by omega)]; exact v8
            · change D.1 + 1 ≤ l at h1
              rw [z_up_a (by omega), b2 _ (by omega), b4 _ (by omega), b4 _ (by omega), z_uj_a (by omega), z_uj_a (by omega)]
              exact t0 l (by omega) h2
          · rw [z_up_a (by omega)]; exact b5.1
      · rw [if_pos (show ¬ k_k T (k_e T (k_e T p)) = 2 from q3), if_neg (by rw [z_eq (by omega) (by omega)]; exact q3), Option.bind_some, o9, Option.bind_some, C_fault (T := T) (p := k_e T (k_e T p)) hS b5.2.2.1 1, z_sq]
        exact ⟨_, X2, Z2, rfl, f2, rfl⟩
  · rw [if_pos (show ¬ k_nm T (k_e T p) = true from q), z_b_f q, if_pos rfl, r0, Option.bind_some, o9, Option.bind_some, C_fault (T := T) (p := k_e T p) hS a5.2.2.1 1, z_sq]
    exact ⟨_, X1, Z1, rfl, f1, rfl⟩
end
