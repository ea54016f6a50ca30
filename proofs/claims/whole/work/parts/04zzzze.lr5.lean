/-! LAW: the reference's steps run. -/
section
variable {S : z_SH} {J : z_MJ} {P : z_MP} {n : Nat × Nat} {v : l_V}
def y_fr (I X : z_MI) : Prop := ∀ a, ¬ (110 ≤ a ∧ a ≤ 118) → X a = I a
theorem y_fr.trans {I X Y : z_MI} (h : y_fr I X) (g : y_fr X Y) : y_fr I Y := fun a ha => (g a ha).trans (h a ha)
theorem y_fr.up {I X : z_MI} (h : y_fr I X) {a i : Nat} {v : Int32} (ha : 110 ≤ a ∧ a ≤ 118) : y_fr I (z_up X a i v) := fun b hb => by rw [z_ups (by omega)]; exact h b hb
theorem y_fr.rfl' (I : z_MI) : y_fr I I := fun _ _ => rfl
theorem y_fr.opn {I X : z_MI} (h : y_fr I X) (d : Nat) : y_fr I (y_opn d X) := ((((h.up (by omega)).up (by omega)).up (by omega)).up (by omega)).up (by omega)
theorem y_fr.sum {I X : z_MI} (h : y_fr I X) (d : Nat) : y_fr I (y_sum d X) := (h.up (by omega)).up (by omega)
theorem y_fr.tst {I X : z_MI} (h : y_fr I X) (d : Nat) : y_fr I (y_tst d X) := ((((h.sum d).up (by omega)).up (by omega)).up (by omega)).up (by omega)
set_option maxRecDepth 100000 in
set_option maxHeartbeats 4000000 in
theorem Mw_put (hS : z_St S) (hP : z_Pt P) {I : z_MI} {d : Nat} {x : Int32} (hd : d ≤ 6) (l k : Nat) (f : Nat) : (q_sq (f_Mo_worth_L268 83 (z_n l) (z_n k) q_FU (z_n d) x (z_h S I J P n)) fun (t93 : Int32 × Int32) σ94 => (q_gr (q_gf σ94 12 83 48)).bind fun x95 => (q_gr (q_gf σ94 12 83 49)).bind fun x96 => (q_gi (q_ga σ94 20 x96 t93.1)).bind fun x97 => if x97 = (0 : Int32) then ((q_sa σ94 20 x95 t93.1 (.int t93.2)).bind fun σ99 => f_Mo_worth_L14 83 (z_n l) f t93.1 (z_n k + (1 : Int32)) σ99) else ((q_gr (q_gf σ94 12 83 48)).bind fun x100 => (q_gi (q_ga σ94 20 x100 t93.1)).bind fun x101 => (q_sa σ94 20 x95 t93.1 (.int (x101 * t93.2))).bind fun σ102 => f_Mo_worth_L14 83 (z_n l) f t93.1 (z_n k + (1 : Int32)) σ102)) = f_Mo_worth_L14 83 (z_n l) f (z_n (y_dv d x I).1) (z_n (k + 1)) (z_h S (y_dv d x I).2 J P n) := by
  have g48 : ∀ X, q_gr (q_gf (z_h S X J P n) 12 83 48) = some 116 := fun _ => z_gr (s_83 hS) rfl (p_83_48 hP)
  have g49 : ∀ X, q_gr (q_gf (z_h S X J P n) 12 83 49) = some 117 := fun _ => z_gr (s_83 hS) rfl (p_83_49 hP)
  have le := y_dl_le (I 118) d x
  rw [M_dl hS hP (z_n l) (z_n k) d q_FU x hd (by rw [z_FU]; omega), z_sq]
  unfold y_dv y_put
  generalize y_dl (I 118) d x = y at *
  obtain ⟨e, u⟩ := y
  dsimp only at le ⊢
  have r117 : q_gi (q_ga (z_h S I J P n) 20 117 (z_n e)) = some (I 117 e) := z_gia (s_117 hS) (by omega) (z_rpl (by omega))
  have r116 : q_gi (q_ga (z_h S I J P n) 20 116 (z_n e)) = some (I 116 e) := z_gia (s_116 hS) (by omega) (z_rpl (by omega))
  have w116 : ∀ u, q_sa (z_h S I J P n) 20 116 (z_n e) (.int u) = some (z_h S (z_up I 116 e u) J P n) := fun _ => z_sai (s_116 hS) (by decide) (by omega) (z_rpl (by omega))
  rw [g48, Option.bind_some, g49, Option.bind_some, r117, Option.bind_some]
  by_cases h : I 117 e = z_n 0
  · rw [if_pos (show I 117 e = (0 : Int32) from h), if_pos h, w116, Option.bind_some, show (1 : Int32) = z_n 1 from rfl, z_n_add]
  · rw [if_neg (show ¬ I 117 e = (0 : Int32) from h), if_neg h, Option.bind_some, r116, Option.bind_some, w116, Option.bind_some, show (1 : Int32) = z_n 1 from rfl, z_n_add]
set_option maxRecDepth 100000 in
set_option maxHeartbeats 4000000 in
theorem Mw_1 (hS : z_St S) (hP : z_Pt P) {I : z_MI} {l d k x e : Nat} {s : Nat × z_MI} (hl : l < 30) (he : I 106 l = z_n e) (hk : k < e) (e5 : e ≤ 5000) (hc : I 107 k = z_n x) (hv : ∀ j, j < 13 → I 119 (j + 1) = v j) (hd : d ≤ 6) (h : y_1 v x d I = some s) : (∀ f, f_Mo_worth_L14 83 (z_n l) (f + 1) (z_n d) (z_n k) (z_h S I J P n) = f_Mo_worth_L14 83 (z_n l) f (z_n s.1) (z_n (k + 1)) (z_h S s.2 J P n)) ∧ s.1 ≤ 6 ∧ y_fr I s.2 := by
  have om := fun I J => z_ob (I := I) (J := J) (P := P) (n := n) (s_83 hS)
  have g37 : q_gr (q_gf (z_h S I J P n) 12 83 37) = some 106 := z_gr (s_83 hS) rfl (p_83_37 hP)
  have g38 : q_gr (q_gf (z_h S I J P n) 12 83 38) = some 107 := z_gr (s_83 hS) rfl (p_83_38 hP)
  have g42 : ∀ X, q_gr (q_gf (z_h S X J P n) 12 83 42) = some 110 := fun _ => z_gr (s_83 hS) rfl (p_83_42 hP)
  have g51 : q_gr (q_gf (z_h S I J P n) 12 83 51) = some 119 := z_gr (s_83 hS) rfl (p_83_51 hP)
  have r106 : q_gi (q_ga (z_h S I J P n) 20 106 (z_n l)) = some (z_n e) := by rw [z_gia (s_106 hS) (by omega) (z_rpl (by omega)), he]
  have r107 : q_gi (q_ga (z_h S I J P n) 20 107 (z_n k)) = some (z_n x) := by rw [z_gia (s_107 hS) (by omega) (z_rpl (by omega)), hc]
  have ke : z_n k < z_n e := by rw [z_lt (by omega) (by omega)]; exact hk
  have n1 : ∀ a, z_n a + (1 : Int32) = z_n (a + 1) := fun a => z_n_add a 1
  have op := fun X {d} (hd : d ≤ 6) => M_opens (I := X) (J := J) (n := n) hS hP hd
  have su := M_sums (I := I) (J := J) (n := n) hS hP hd
  have te := M_tests (I := I) (J := J) (n := n) hS hP hd
  have cx : x < 20000 := by
    unfold y_1 at h
    repeat' split at h
    all_goals first | omega | cases h
  have ne : ∀ c, c < 1000 → ¬ x = c → ¬ z_n x = z_n c := fun c hc h e => h (by rw [z_eq (by omega) (by omega)] at e; exact e)
  unfold y_1 at h
  by_cases c1 : x = 28 ∨ x = 30
  · rw [if_pos c1] at h
    by_cases d6 : d < 6
    · rw [if_pos d6] at h
      cases h
      refine ⟨fun f => ?_, by show d + 1 ≤ 6; omega, ((y_fr.rfl' I).up (by omega)).opn (d + 1)⟩
      have w118 : ∀ u, q_sa (z_h S I J P n) 20 118 (z_n (d + 1)) (.int u) = some (z_h S (z_up I 118 (d + 1) u) J P n) := fun _ => z_sai (s_118 hS) (by decide) (by omega) (z_rpl (by omega))
      have g50 : q_gr (q_gf (z_h S I J P n) 12 83 50) = some 118 := z_gr (s_83 hS) rfl (p_83_50 hP)
      rcases c1 with rfl | rfl
      · rw [f_Mo_worth_L14, g37, Option.bind_some, r106, Option.bind_some, if_pos ke, g38, Option.bind_some, r107, Option.bind_some, if_pos (show z_n 28 = (28 : Int32) from rfl), g50, Option.bind_some, if_neg (show ¬ z_n 28 = (30 : Int32) by decide), z_sq, n1, n1, w118, Option.bind_some, om, Option.bind_some, op _ (by omega), z_sq]
        rfl
      · rw [f_Mo_worth_L14, g37, Option.bind_some, r106, Option.bind_some, if_pos ke, g38, Option.bind_some, r107, Option.bind_some, if_neg (show ¬ z_n 30 = (28 : Int32) by decide), if_pos (show z_n 30 = (30 : Int32) from rfl), g50, Option.bind_some, if_pos (show z_n 30 = (30 : Int32) from rfl), z_sq, n1, n1, w118, Option.bind_some, om, Option.bind_some, op _ (by omega), z_sq]
        rfl
    · rw [if_neg d6] at h; cases h
  rw [if_neg c1] at h
  have pre : ∀ f, f_Mo_worth_L14 83 (z_n l) (f + 1) (z_n d) (z_n k) (z_h S I J P n) = _ := fun f => by
    rw [f_Mo_worth_L14, g37, Option.bind_some, r106, Option.bind_some, if_pos ke, g38, Option.bind_some, r107, Option.bind_some, if_neg (show ¬ z_n x = (28 : Int32) from ne 28 (by omega) (by omega)), if_neg (show ¬ z_n x = (30 : Int32) from ne 30 (by omega) (by omega))]
  by_cases c2 : x = 20 ∨ x = 21
  · rw [if_pos c2] at h
    cases h
    refine ⟨fun f => ?_, hd, ((y_fr.rfl' I).sum d).up (by omega)⟩
    have g47 : ∀ X, q_gr (q_gf (z_h S X J P n) 12 83 47) = some 115 := fun _ => z_gr (s_83 hS) rfl (p_83_47 hP)
    have w115 : ∀ X u, q_sa (z_h S X J P n) 20 115 (z_n d) (.int u) = some (z_h S (z_up X 115 d u) J P n) := fun _ _ => z_sai (s_115 hS) (by decide) (by omega) (z_rpl (by omega))
    rw [pre]
    rcases c2 with rfl | rfl
    · rw [if_pos (show z_n 20 = (20 : Int32) from rfl), om, Option.bind_some, su, z_sq, g47, Option.bind_some, w115, Option.bind_some, n1]
    · rw [if_neg (show ¬ z_n 21 = (20 : Int32) by decide), if_pos (show z_n 21 = (21 : Int32) from rfl), om, Option.bind_some, su, z_sq, g47, Option.bind_some, w115, Option.bind_some, n1]
  rw [if_neg c2] at h
  by_cases c3 : x = 22
  · rw [if_pos c3] at h
    cases h
    subst c3
    refine ⟨fun f => ?_, hd, (y_fr.rfl' I).up (by omega)⟩
    have g49 : q_gr (q_gf (z_h S I J P n) 12 83 49) = some 117 := z_gr (s_83 hS) rfl (p_83_49 hP)
    have w117 : ∀ u, q_sa (z_h S I J P n) 20 117 (z_n d) (.int u) = some (z_h S (z_up I 117 d u) J P n) := fun _ => z_sai (s_117 hS) (by decide) (by omega) (z_rpl (by omega))
    rw [pre, if_neg (show ¬ z_n 22 = (20 : Int32) by decide), if_neg (show ¬ z_n 22 = (21 : Int32) by decide), if_pos (show z_n 22 = (22 : Int32) from rfl), g49, Option.bind_some, w117, Option.bind_some, n1]
  rw [if_neg c3] at h
  have pre2 : ∀ f, f_Mo_worth_L14 83 (z_n l) (f + 1) (z_n d) (z_n k) (z_h S I J P n) = _ := fun f => by
    rw [pre f, if_neg (show ¬ z_n x = (20 : Int32) from ne 20 (by omega) (by omega)), if_neg (show ¬ z_n x = (21 : Int32) from ne 21 (by omega) (by omega)), if_neg (show ¬ z_n x = (22 : Int32) from ne 22 (by omega) (by omega))]
  by_cases c4 : x = 24 ∨ x = 25
  · rw [if_pos c4] at h
    cases h
    refine ⟨fun f => ?_, hd, (((((y_fr.rfl' I).sum d).up (by omega)).up (by omega)).up (by omega)).up (by omega)⟩
    have g44 : ∀ X, q_gr (q_gf (z_h S X J P n) 12 83 44) = some 112 := fun _ => z_gr (s_83 hS) rfl (p_83_44 hP)
    have g45 : ∀ X, q_gr (q_gf (z_h S X J P n) 12 83 45) = some 113 := fun _ => z_gr (s_83 hS) rfl (p_83_45 hP)
    have g46 : ∀ X, q_gr (q_gf (z_h S X J P n) 12 83 46) = some 114 := fun _ => z_gr (s_83 hS) rfl (p_83_46 hP)
    have g47 : ∀ X, q_gr (q_gf (z_h S X J P n) 12 83 47) = some 115 := fun _ => z_gr (s_83 hS) rfl (p_83_47 hP)
    have r114 : q_gi (q_ga (z_h S (y_sum d I) J P n) 20 114 (z_n d)) = some (y_pd d I) := by
      rw [z_gia (s_114 hS) (by omega) (z_rpl (by omega))]
      unfold y_sum
      rw [z_up_o (by omega), z_up_s]
    have w112 : ∀ X u, q_sa (z_h S X J P n) 20 112 (z_n d) (.int u) = some (z_h S (z_up X 112 d u) J P n) := fun _ _ => z_sai (s_112 hS) (by decide) (by omega) (z_rpl (by omega))
    have w113 : ∀ X u, q_sa (z_h S X J P n) 20 113 (z_n d) (.int u) = some (z_h S (z_up X 113 d u) J P n) := fun _ _ => z_sai (s_113 hS) (by decide) (by omega) (z_rpl (by omega))
    have w114 : ∀ X u, q_sa (z_h S X J P n) 20 114 (z_n d) (.int u) = some (z_h S (z_up X 114 d u) J P n) := fun _ _ => z_sai (s_114 hS) (by decide) (by omega) (z_rpl (by omega))
    have w115 : ∀ X u, q_sa (z_h S X J P n) 20 115 (z_n d) (.int u) = some (z_h S (z_up X 115 d u) J P n) := fun _ _ => z_sai (s_115 hS) (by decide) (by omega) (z_rpl (by omega))
    rw [pre2]
    rcases c4 with rfl | rfl
    · rw [if_pos (show z_n 24 = (24 : Int32) from rfl), om, Option.bind_some, su, z_sq, g44, Option.bind_some, g46, Option.bind_some, r114, Option.bind_some, w112, Option.bind_some, g45, Option.bind_some, w113, Option.bind_some, g46, Option.bind_some, w114, Option.bind_some, g47, Option.bind_some, w115, Option.bind_some, n1]
      rfl
    · rw [if_neg (show ¬ z_n 25 = (24 : Int32) by decide), if_pos (show z_n 25 = (25 : Int32) from rfl), om, Option.bind_some, su, z_sq, g44, Option.bind_some, g46, Option.bind_some, r114, Option.bind_some, w112, Option.bind_some, g45, Option.bind_some, w113, Option.bind_some, g46, Option.bind_some, w114, Option.bind_some, g47, Option.bind_some, w115, Option.bind_some, n1]
      rfl
  rw [if_neg c4] at h
  by_cases c5 : x = 26 ∨ x = 27
  · rw [if_pos c5] at h
    cases h
    refine ⟨fun f => ?_, hd, ((y_fr.rfl' I).tst d).up (by omega)⟩
    have g43 : ∀ X, q_gr (q_gf (z_h S X J P n) 12 83 43) = some 111 := fun _ => z_gr (s_83 hS) rfl (p_83_43 hP)
    have w111 : ∀ X u, q_sa (z_h S X J P n) 20 111 (z_n d) (.int u) = some (z_h S (z_up X 111 d u) J P n) := fun _ _ => z_sai (s_111 hS) (by decide) (by omega) (z_rpl (by omega))
    rw [pre2]
    rcases c5 with rfl | rfl
    · rw [if_neg (show ¬ z_n 26 = (24 : Int32) by decide), if_neg (show ¬ z_n 26 = (25 : Int32) by decide), if_pos (show z_n 26 = (26 : Int32) from rfl), om, Option.bind_some, te, z_sq, g43, Option.bind_some, w111, Option.bind_some, n1]
    · rw [if_neg (show ¬ z_n 27 = (24 : Int32) by decide), if_neg (show ¬ z_n 27 = (25 : Int32) by decide), if_neg (show ¬ z_n 27 = (26 : Int32) by decide), if_pos (show z_n 27 = (27 : Int32) from rfl), om, Option.bind_some, te, z_sq, g43, Option.bind_some, w111, Option.bind_some, n1]
  rw [if_neg c5] at h
  have pre3 : ∀ f, f_Mo_worth_L14 83 (z_n l) (f + 1) (z_n d) (z_n k) (z_h S I J P n) = _ := fun f => by
    rw [pre2 f, if_neg (show ¬ z_n x = (24 : Int32) from ne 24 (by omega) (by omega)), if_neg (show ¬ z_n x = (25 : Int32) from ne 25 (by omega) (by omega)), if_neg (show ¬ z_n x = (26 : Int32) from ne 26 (by omega) (by omega)), if_neg (show ¬ z_n x = (27 : Int32) from ne 27 (by omega) (by omega))]
  have fdv : ∀ {d x X}, y_fr I X → y_fr I (y_dv d x X).2 := fun hX => hX.up (by omega)
  by_cases c6 : x = 29
  · rw [if_pos c6] at h
    subst c6
    by_cases d0 : 0 < d
    · rw [if_pos d0] at h
      cases h
      obtain ⟨d', rfl⟩ : ∃ d', d = d' + 1 := ⟨d - 1, by omega⟩
      have r110 : q_gi (q_ga (z_h S (y_tst (d' + 1) I) J P n) 20 110 (z_n (d' + 1))) = some (y_tv (d' + 1) I) := by
        rw [z_gia (s_110 hS) (by omega) (z_rpl (by omega))]
        unfold y_tst
        rw [z_up_o (by omega), z_up_o (by omega), z_up_o (by omega), z_up_s]
      refine ⟨fun f => ?_, by have := y_dl_le (y_tst (d' + 1) I 118) d' (y_tv (d' + 1) I); exact Nat.le_trans this (by omega), fdv ((y_fr.rfl' I).tst _)⟩
      rw [pre3, if_pos (show z_n 29 < (100 : Int32) by decide), if_neg (show ¬ z_n 29 < (20 : Int32) by decide), z_sq, if_pos (show z_n 29 = (29 : Int32) from rfl), om, Option.bind_some, te, z_sq, g42, Option.bind_some, r110, Option.bind_some, show (-1 : Int32) = -z_n 1 from rfl, k_dec, z_sq]
      exact Mw_put hS hP (by omega) l k f
    · rw [if_neg d0] at h; cases h
  rw [if_neg c6] at h
  by_cases c7 : (1 ≤ x ∧ x < 14) ∨ (100 ≤ x ∧ x < 20000)
  · rw [if_pos c7] at h
    cases h
    refine ⟨fun f => ?_, by have := y_dl_le (I 118) d (y_pv v x); exact Nat.le_trans this hd, fdv (y_fr.rfl' I)⟩
    rw [pre3]
    unfold y_pv
    by_cases x1 : 100 ≤ x
    · rw [if_neg (show ¬ z_n x < (100 : Int32) by rw [show (100 : Int32) = z_n 100 from rfl, z_lt (by omega) (by omega)]; omega), z_sq, if_neg (show ¬ z_n x = (29 : Int32) from ne 29 (by omega) (by omega)), z_sq, if_pos x1, show (100 : Int32) = z_n 100 from rfl, z_n_sub x1]
      exact Mw_put hS hP hd l k f
    · have r119 : q_gi (q_ga (z_h S I J P n) 20 119 (z_n x)) = some (v (x - 1)) := by
        rw [z_gia (s_119 hS) (by omega) (z_rpl (by omega)), ← hv (x - 1) (by omega), show x - 1 + 1 = x by omega]
      rw [if_pos (show z_n x < (100 : Int32) by rw [show (100 : Int32) = z_n 100 from rfl, z_lt (by omega) (by omega)]; omega), if_pos (show z_n x < (20 : Int32) by rw [show (20 : Int32) = z_n 20 from rfl, z_lt (by omega) (by omega)]; omega), g51, Option.bind_some, r119, Option.bind_some, z_sq, if_neg (show ¬ z_n x = (29 : Int32) from ne 29 (by omega) (by omega)), z_sq, if_neg x1]
      exact Mw_put hS hP hd l k f
  · rw [if_neg c7] at h; cases h
end
