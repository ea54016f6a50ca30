/-! Methods of the class: walks: by program. -/
set_option maxRecDepth 100000 in
theorem l_Li_oddsOfSister_L6 {fo : Option Nat} {d : Nat} (hd : 2 ≤ d + 1) {o : q_O} {σ' : q_H} {E : (Int64) → q_H → Prop} (v0 : Nat) (v1 : Int32) (v2 : Int32) (v3 : Int32) (hX : ∀ (t : Int64) σ1, E (t) σ1 → q_G (q_rf fo) d m_Li_oddsOfSister o σ' 95 [none, none, none, none, some (.long t), none, none, none] [] σ1)  : ∀ (n : Nat) (v4 : Int64) (v6 : Int32) (σ : q_H), q_J E (f_Li_oddsOfSister_L6 v0 v1 v2 v3 n v4 v6 σ) (q_G (q_rf fo) d m_Li_oddsOfSister o σ' 6 [some (.ref v0), some (.int v1), some (.int v2), some (.int v3), some (.long v4), none, some (.int v6), none] [] σ)
  | 0, v4, v6, σ => J_none
  | n + 1, v4, v6, σ => by
    unfold f_Li_oddsOfSister_L6
    refine q_J.step (fun g => j_iload rfl rfl (j_iconst (4 : Int32) rfl k32_4 (g))) ?_
    refine J_ite (fun h1 => ?_) (fun h1 => ?_)
    · refine J_bind fun x2 hx2 => ?_
      refine q_J.step (fun g => j_icmp_f rfl (cc_ge_f h1) (j_iload rfl rfl (j_aload_n rfl rfl (j_gfi rfl hx2 (g))))) ?_
      refine J_ite (fun h3 => ?_) (fun h3 => ?_)
      · refine J_bind fun x4 hx4 => ?_
        refine J_bind fun x5 hx5 => ?_
        refine q_J.step (fun g => j_icmp_f rfl (cc_ge_f h3) (j_aload_n rfl rfl (j_gfr rfl hx4 (j_iload rfl rfl (j_ial rfl hx5 (j_abs rfl rfl (j_iload_n rfl rfl (g)))))))) ?_
        refine J_ite (fun h6 => ?_) (fun h6 => ?_)
        · refine q_J.step (fun g => j_icmp_t rfl (cc_gt_t h6) (j_iconst (0 : Int32) rfl k32_0 (j_istore [some (.ref v0), some (.int v1), some (.int v2), some (.int v3), some (.long v4), none, some (.int v6), some (.int (0 : Int32))] rfl rfl (Or.inr rfl) rfl (j_lload rfl rfl (j_iload rfl rfl (g)))))) ?_
          refine J_ite (fun h7 => ?_) (fun h7 => ?_)
          · exact q_J.step (fun g => j_if_t rfl (cc_eq_t h7) (j_ldc2 (10000 : Int64) rfl kw_10000 (j_lmul rfl (j_lstore [some (.ref v0), some (.int v1), some (.int v2), some (.int v3), some (.long (v4 * (10000 : Int64))), none, some (.int v6), some (.int (0 : Int32))] rfl rfl (Or.inr rfl) rfl (j_iinc [some (.ref v0), some (.int v1), some (.int v2), some (.int v3), some (.long (v4 * (10000 : Int64))), none, some (.int (v6 + (1 : Int32))), some (.int (0 : Int32))] (v6 + (1 : Int32)) rfl rfl (by rw [k32_1]) (Or.inr True.intro) rfl (j_goto rfl (j_weak (l := [some (.ref v0), some (.int v1), some (.int v2), some (.int v3), some (.long (v4 * (10000 : Int64))), none, some (.int (v6 + (1 : Int32))), none]) (And.intro (Or.inr rfl) (And.intro (Or.inr rfl) (And.intro (Or.inr rfl) (And.intro (Or.inr rfl) (And.intro (Or.inr rfl) (And.intro (Or.inr rfl) (And.intro (Or.inr rfl) (And.intro (Or.inl rfl) True.intro)))))))) (g)))))))) (l_Li_oddsOfSister_L6 hd v0 v1 v2 v3 hX n (v4 * (10000 : Int64)) (v6 + (1 : Int32)) σ)
          refine J_bind fun x8 hx8 => ?_
          refine J_bind fun x9 hx9 => ?_
          refine J_bind fun w10 hw10 => ?_
          refine J_cl fun x12 σ11 hσ11 => ?_
          exact q_J.step (fun g => j_if_f rfl (cc_eq_f h7) (j_sipush (10000 : Int32) rfl ks_10000 (j_aload_n rfl rfl (j_iload_n rfl rfl (j_iload_n rfl rfl (j_aload_n rfl rfl (j_gfr rfl hx8 (j_iload rfl rfl (j_ial rfl hx9 (j_iadd rfl (j_v1 [.ref v0, .int v1, .int (v2 + x9)] [.int (10000 : Int32), .long v4] rfl rfl rfl rfl rfl rfl hw10 (Or.inl rfl) (t_Li_fifthsAt (by omega) hσ11) (j_isub rfl (j_i2l rfl (j_goto rfl (j_lmul rfl (j_lstore [some (.ref v0), some (.int v1), some (.int v2), some (.int v3), some (.long (v4 * (((10000 : Int32) - x12).toInt64))), none, some (.int v6), some (.int (0 : Int32))] rfl rfl (Or.inr rfl) rfl (j_iinc [some (.ref v0), some (.int v1), some (.int v2), some (.int v3), some (.long (v4 * (((10000 : Int32) - x12).toInt64))), none, some (.int (v6 + (1 : Int32))), some (.int (0 : Int32))] (v6 + (1 : Int32)) rfl rfl (by rw [k32_1]) (Or.inr True.intro) rfl (j_goto rfl (j_weak (l := [some (.ref v0), some (.int v1), some (.int v2), some (.int v3), some (.long (v4 * (((10000 : Int32) - x12).toInt64))), none, some (.int (v6 + (1 : Int32))), none]) (And.intro (Or.inr rfl) (And.intro (Or.inr rfl) (And.intro (Or.inr rfl) (And.intro (Or.inr rfl) (And.intro (Or.inr rfl) (And.intro (Or.inr rfl) (And.intro (Or.inr rfl) (And.intro (Or.inl rfl) True.intro)))))))) (g)))))))))))))))))))) (l_Li_oddsOfSister_L6 hd v0 v1 v2 v3 hX n (v4 * (((10000 : Int32) - x12).toInt64)) (v6 + (1 : Int32)) σ11)
        refine J_bind fun x13 hx13 => ?_
        refine J_bind fun x14 hx14 => ?_
        refine q_J.step (fun g => j_icmp_f rfl (cc_gt_f h6) (j_iload_n rfl rfl (j_aload_n rfl rfl (j_gfr rfl hx13 (j_iload rfl rfl (j_ial rfl hx14 (j_iadd rfl (g)))))))) ?_
        refine J_sq (fun (t16 : Int32) (σ17 : q_H) => q_G (q_rf fo) d m_Li_oddsOfSister o σ' 52 [some (.ref v0), some (.int v1), some (.int v2), some (.int v3), some (.long v4), none, some (.int v6), none] [.int t16] σ17) ?_ (fun t16 σ17 => ?_)
        · refine J_ite (fun h15 => ?_) (fun h15 => ?_)
          · exact J_some (fun h => j_if_t rfl (cc_lt_t h15) (j_iconst (0 : Int32) rfl k32_0 (h)))
          exact J_some (fun h => j_if_f rfl (cc_lt_f h15) (j_iconst (1 : Int32) rfl k32_1 (j_goto rfl (h))))
        refine q_J.step (fun g => j_istore [some (.ref v0), some (.int v1), some (.int v2), some (.int v3), some (.long v4), none, some (.int v6), some (.int t16)] rfl rfl (Or.inr rfl) rfl (j_lload rfl rfl (j_iload rfl rfl (g)))) ?_
        refine J_ite (fun h18 => ?_) (fun h18 => ?_)
        · exact q_J.step (fun g => j_if_t rfl (cc_eq_t h18) (j_ldc2 (10000 : Int64) rfl kw_10000 (j_lmul rfl (j_lstore [some (.ref v0), some (.int v1), some (.int v2), some (.int v3), some (.long (v4 * (10000 : Int64))), none, some (.int v6), some (.int t16)] rfl rfl (Or.inr rfl) rfl (j_iinc [some (.ref v0), some (.int v1), some (.int v2), some (.int v3), some (.long (v4 * (10000 : Int64))), none, some (.int (v6 + (1 : Int32))), some (.int t16)] (v6 + (1 : Int32)) rfl rfl (by rw [k32_1]) (Or.inr True.intro) rfl (j_goto rfl (j_weak (l := [some (.ref v0), some (.int v1), some (.int v2), some (.int v3), some (.long (v4 * (10000 : Int64))), none, some (.int (v6 + (1 : Int32))), none]) (And.intro (Or.inr rfl) (And.intro (Or.inr rfl) (And.intro (Or.inr rfl) (And.intro (Or.inr rfl) (And.intro (Or.inr rfl) (And.intro (Or.inr rfl) (And.intro (Or.inr rfl) (And.intro (Or.inl rfl) True.intro)))))))) (g)))))))) (l_Li_oddsOfSister_L6 hd v0 v1 v2 v3 hX n (v4 * (10000 : Int64)) (v6 + (1 : Int32)) σ17)
        refine J_bind fun x19 hx19 => ?_
        refine J_bind fun x20 hx20 => ?_
        refine J_bind fun w21 hw21 => ?_
        refine J_cl fun x23 σ22 hσ22 => ?_
        exact q_J.step (fun g => j_if_f rfl (cc_eq_f h18) (j_sipush (10000 : Int32) rfl ks_10000 (j_aload_n rfl rfl (j_iload_n rfl rfl (j_iload_n rfl rfl (j_aload_n rfl rfl (j_gfr rfl hx19 (j_iload rfl rfl (j_ial rfl hx20 (j_iadd rfl (j_v1 [.ref v0, .int v1, .int (v2 + x20)] [.int (10000 : Int32), .long v4] rfl rfl rfl rfl rfl rfl hw21 (Or.inl rfl) (t_Li_fifthsAt (by omega) hσ22) (j_isub rfl (j_i2l rfl (j_goto rfl (j_lmul rfl (j_lstore [some (.ref v0), some (.int v1), some (.int v2), some (.int v3), some (.long (v4 * (((10000 : Int32) - x23).toInt64))), none, some (.int v6), some (.int t16)] rfl rfl (Or.inr rfl) rfl (j_iinc [some (.ref v0), some (.int v1), some (.int v2), some (.int v3), some (.long (v4 * (((10000 : Int32) - x23).toInt64))), none, some (.int (v6 + (1 : Int32))), some (.int t16)] (v6 + (1 : Int32)) rfl rfl (by rw [k32_1]) (Or.inr True.intro) rfl (j_goto rfl (j_weak (l := [some (.ref v0), some (.int v1), some (.int v2), some (.int v3), some (.long (v4 * (((10000 : Int32) - x23).toInt64))), none, some (.int (v6 + (1 : Int32))), none]) (And.intro (Or.inr rfl) (And.intro (Or.inr rfl) (And.intro (Or.inr rfl) (And.intro (Or.inr rfl) (And.intro (Or.inr rfl) (And.intro (Or.inr rfl) (And.intro (Or.inr rfl) (And.intro (Or.inl rfl) True.intro)))))))) (g)))))))))))))))))))) (l_Li_oddsOfSister_L6 hd v0 v1 v2 v3 hX n (v4 * (((10000 : Int32) - x23).toInt64)) (v6 + (1 : Int32)) σ22)
      refine q_J.step (fun g => j_icmp_t rfl (cc_ge_t h3) (j_iconst (0 : Int32) rfl k32_0 (j_istore [some (.ref v0), some (.int v1), some (.int v2), some (.int v3), some (.long v4), none, some (.int v6), some (.int (0 : Int32))] rfl rfl (Or.inr rfl) rfl (j_lload rfl rfl (j_iload rfl rfl (g)))))) ?_
      refine J_ite (fun h24 => ?_) (fun h24 => ?_)
      · exact q_J.step (fun g => j_if_t rfl (cc_eq_t h24) (j_ldc2 (10000 : Int64) rfl kw_10000 (j_lmul rfl (j_lstore [some (.ref v0), some (.int v1), some (.int v2), some (.int v3), some (.long (v4 * (10000 : Int64))), none, some (.int v6), some (.int (0 : Int32))] rfl rfl (Or.inr rfl) rfl (j_iinc [some (.ref v0), some (.int v1), some (.int v2), some (.int v3), some (.long (v4 * (10000 : Int64))), none, some (.int (v6 + (1 : Int32))), some (.int (0 : Int32))] (v6 + (1 : Int32)) rfl rfl (by rw [k32_1]) (Or.inr True.intro) rfl (j_goto rfl (j_weak (l := [some (.ref v0), some (.int v1), some (.int v2), some (.int v3), some (.long (v4 * (10000 : Int64))), none, some (.int (v6 + (1 : Int32))), none]) (And.intro (Or.inr rfl) (And.intro (Or.inr rfl) (And.intro (Or.inr rfl) (And.intro (Or.inr rfl) (And.intro (Or.inr rfl) (And.intro (Or.inr rfl) (And.intro (Or.inr rfl) (And.intro (Or.inl rfl) True.intro)))))))) (g)))))))) (l_Li_oddsOfSister_L6 hd v0 v1 v2 v3 hX n (v4 * (10000 : Int64)) (v6 + (1 : Int32)) σ)
      refine J_bind fun x25 hx25 => ?_
      refine J_bind fun x26 hx26 => ?_
      refine J_bind fun w27 hw27 => ?_
      refine J_cl fun x29 σ28 hσ28 => ?_
      exact q_J.step (fun g => j_if_f rfl (cc_eq_f h24) (j_sipush (10000 : Int32) rfl ks_10000 (j_aload_n rfl rfl (j_iload_n rfl rfl (j_iload_n rfl rfl (j_aload_n rfl rfl (j_gfr rfl hx25 (j_iload rfl rfl (j_ial rfl hx26 (j_iadd rfl (j_v1 [.ref v0, .int v1, .int (v2 + x26)] [.int (10000 : Int32), .long v4] rfl rfl rfl rfl rfl rfl hw27 (Or.inl rfl) (t_Li_fifthsAt (by omega) hσ28) (j_isub rfl (j_i2l rfl (j_goto rfl (j_lmul rfl (j_lstore [some (.ref v0), some (.int v1), some (.int v2), some (.int v3), some (.long (v4 * (((10000 : Int32) - x29).toInt64))), none, some (.int v6), some (.int (0 : Int32))] rfl rfl (Or.inr rfl) rfl (j_iinc [some (.ref v0), some (.int v1), some (.int v2), some (.int v3), some (.long (v4 * (((10000 : Int32) - x29).toInt64))), none, some (.int (v6 + (1 : Int32))), some (.int (0 : Int32))] (v6 + (1 : Int32)) rfl rfl (by rw [k32_1]) (Or.inr True.intro) rfl (j_goto rfl (j_weak (l := [some (.ref v0), some (.int v1), some (.int v2), some (.int v3), some (.long (v4 * (((10000 : Int32) - x29).toInt64))), none, some (.int (v6 + (1 : Int32))), none]) (And.intro (Or.inr rfl) (And.intro (Or.inr rfl) (And.intro (Or.inr rfl) (And.intro (Or.inr rfl) (And.intro (Or.inr rfl) (And.intro (Or.inr rfl) (And.intro (Or.inr rfl) (And.intro (Or.inl rfl) True.intro)))))))) (g)))))))))))))))))))) (l_Li_oddsOfSister_L6 hd v0 v1 v2 v3 hX n (v4 * (((10000 : Int32) - x29).toInt64)) (v6 + (1 : Int32)) σ28)
    exact J_some (fun h => j_icmp_t rfl (cc_ge_t h1) (j_weak (l := [none, none, none, none, some (.long v4), none, none, none]) (And.intro (Or.inl rfl) (And.intro (Or.inl rfl) (And.intro (Or.inl rfl) (And.intro (Or.inl rfl) (And.intro (Or.inr rfl) (And.intro (Or.inr rfl) (And.intro (Or.inl rfl) (And.intro (Or.inr rfl) True.intro)))))))) (hX _ _ h)))

set_option maxRecDepth 100000 in
theorem b_Li_oddsOfSister {fo : Option Nat} {d : Nat} (hd : 2 ≤ d + 1) {o : q_O} {σ' : q_H} (v0 : Nat) (v1 : Int32) (v2 : Int32) (v3 : Int32) (σ : q_H) : q_J (fun (r : Int64) (σ1 : q_H) => o = .inl (some (.long r)) ∧ σ' = σ1) (f_Li_oddsOfSister v0 v1 v2 v3 σ) (q_G (q_rf fo) d m_Li_oddsOfSister o σ' 0 [some (.ref v0), some (.int v1), some (.int v2), some (.int v3), none, none, none, none] [] σ) := by
  unfold f_Li_oddsOfSister
  refine J_sq (fun (t1 : Int64) (σ2 : q_H) => q_G (q_rf fo) d m_Li_oddsOfSister o σ' 95 [none, none, none, none, some (.long t1), none, none, none] [] σ2) (q_J.step (fun g => j_lconst (1 : Int64) rfl kl_1 (j_lstore [some (.ref v0), some (.int v1), some (.int v2), some (.int v3), some (.long (1 : Int64)), none, none, none] rfl rfl (Or.inr rfl) rfl (j_iconst (0 : Int32) rfl k32_0 (j_istore [some (.ref v0), some (.int v1), some (.int v2), some (.int v3), some (.long (1 : Int64)), none, some (.int (0 : Int32)), none] rfl rfl (Or.inr True.intro) rfl (g))))) (l_Li_oddsOfSister_L6 hd v0 v1 v2 v3 (fun _ _ h => h) q_FU (1 : Int64) (0 : Int32) σ)) (fun t1 σ2 => ?_)
  exact J_some (fun h => j_ldc2 (10000000000000000 : Int64) rfl kw_10000000000000000 (j_lload rfl rfl (j_lsub rfl (j_lret rfl rfl h))))
theorem t_Li_oddsOfSister {fo : Option Nat} {d : Nat} (hd : 2 ≤ d) {v0 : Nat} {v1 : Int32} {v2 : Int32} {v3 : Int32} {σ σ1 : q_H} {r : Int64} (h : f_Li_oddsOfSister v0 v1 v2 v3 σ = some (r, σ1)) : q_Rel (q_rf fo) q_Ms d 40 [.ref v0, .int v1, .int v2, .int v3] σ (.inl (some (.long r))) σ1 := by
  obtain ⟨d, rfl⟩ : ∃ d1, d = d1 + 1 := ⟨d - 1, by omega⟩
  exact q_Rel.of rfl rfl (b_Li_oddsOfSister hd _ _ _ _ σ _ _ h ⟨rfl, rfl⟩)

set_option maxRecDepth 100000 in
theorem l_Wo_bear_L18 {fo : Option Nat} {d : Nat} (hd : 2 ≤ d + 1) {o : q_O} {σ' : q_H} {E : (Unit) → q_H → Prop} (v0 : Nat) (v1 : Nat) (v2 : Int32) (hX : ∀ (t : Unit) σ1, E (t) σ1 → q_G (q_rf fo) d m_Wo_bear o σ' 119 [none, none, none, none, none] [] σ1)  : ∀ (n : Nat) (v3 : Int32) (v4 : Int32) (σ : q_H), q_J E (f_Wo_bear_L18 v0 v1 v2 n v3 v4 σ) (q_G (q_rf fo) d m_Wo_bear o σ' 18 [some (.ref v0), some (.ref v1), some (.int v2), some (.int v3), some (.int v4)] [] σ)
  | 0, v3, v4, σ => J_none
  | n + 1, v3, v4, σ => by
    unfold f_Wo_bear_L18
    refine J_bind fun x1 hx1 => ?_
    refine q_J.step (fun g => j_iload rfl rfl (j_aload_n rfl rfl (j_gfi rfl hx1 (g)))) ?_
    refine J_ite (fun h2 => ?_) (fun h2 => ?_)
    · refine q_J.step (fun g => j_icmp_f rfl (cc_ge_f h2) (j_iload rfl rfl (j_bipush (6 : Int32) rfl kb_6 (g)))) ?_
      refine J_ite (fun h3 => ?_) (fun h3 => ?_)
      · refine J_bind fun x4 hx4 => ?_
        refine J_bind fun w5 hw5 => ?_
        refine J_cl fun x7 σ6 hσ6 => ?_
        refine q_J.step (fun g => j_icmp_f rfl (cc_ge_f h3) (j_aload_n rfl rfl (j_gfr rfl hx4 (j_iload rfl rfl (j_aload_n rfl rfl (j_iconst (2 : Int32) rfl k32_2 (j_v1 [.ref v0, .int (2 : Int32)] [.int v4, .ref x4] rfl rfl rfl rfl rfl rfl hw5 (Or.inl rfl) (t_Wo_draw (by omega) hσ6) (j_iconst (1 : Int32) rfl k32_1 (g))))))))) ?_
        refine J_sq (fun (t9 : Int32) (σ10 : q_H) => q_G (q_rf fo) d m_Wo_bear o σ' 54 [some (.ref v0), some (.ref v1), some (.int v2), some (.int v3), some (.int v4)] [.int t9, .int v4, .ref x4] σ10) ?_ (fun t9 σ10 => ?_)
        · refine J_ite (fun h8 => ?_) (fun h8 => ?_)
          · exact J_some (fun h => j_icmp_f rfl (cc_ne_f h8) (j_iconst (1 : Int32) rfl k32_1 (j_goto rfl (h))))
          exact J_some (fun h => j_icmp_t rfl (cc_ne_t h8) (j_iconst (0 : Int32) rfl k32_0 (h)))
        refine J_ite (fun _ => J_none) (fun h12 => ?_)
        refine J_bind fun σ11 hσ11 => ?_
        refine J_bind fun w13 hw13 => ?_
        refine J_cl fun x15 σ14 hσ14 => ?_
        refine J_bind fun x16 hx16 => ?_
        refine J_bind fun σ17 hσ17 => ?_
        refine J_bind fun x18 hx18 => ?_
        refine J_bind fun w19 hw19 => ?_
        refine J_cl fun x21 σ20 hσ20 => ?_
        refine J_bind fun w22 hw22 => ?_
        refine J_cl fun x24 σ23 hσ23 => ?_
        refine q_J.step (fun g => j_bas rfl (Decidable.not_not.mp h12) hσ11 (j_iload_n rfl rfl (j_aload_n rfl rfl (j_iconst (5 : Int32) rfl k32_5 (j_v1 [.ref v0, .int (5 : Int32)] [.int v3] rfl rfl rfl rfl rfl rfl hw13 (Or.inl rfl) (t_Wo_draw (by omega) hσ14) (j_iconst (1 : Int32) rfl k32_1 (j_iadd rfl (j_isub rfl (j_istore_n [some (.ref v0), some (.ref v1), some (.int v2), some (.int (v3 - (x15 + (1 : Int32)))), some (.int v4)] rfl rfl (Or.inr rfl) rfl (j_aload_n rfl rfl (j_gfr rfl hx16 (j_iload rfl rfl (j_iload_n rfl rfl (j_ias rfl hσ17 (g))))))))))))))) ?_
        refine q_J.step (fun g => j_aload_n rfl rfl (j_gfr rfl hx18 (j_iload rfl rfl (j_aload_n rfl rfl (j_sipush (5000 : Int32) rfl ks_5000 (j_v1 [.ref v0, .int (5000 : Int32)] [.int v4, .ref x18] rfl rfl rfl rfl rfl rfl hw19 (Or.inl rfl) (t_Wo_draw (by omega) hσ20) (j_aload_n rfl rfl (j_iload_n rfl rfl (j_iconst (0 : Int32) rfl k32_0 (j_iload_n rfl rfl (j_max rfl rfl (j_v1 [.ref v1, .int v2, .int (if (0 : Int32) < (v3 - (x15 + (1 : Int32))) then (v3 - (x15 + (1 : Int32))) else (0 : Int32))] [.int x21, .int v4, .ref x18] rfl rfl rfl rfl rfl rfl hw22 (Or.inl rfl) (t_Li_fifthsAt (by omega) hσ23) (g))))))))))))) ?_
        refine J_ite (fun h25 => ?_) (fun h25 => ?_)
        · refine J_bind fun σ26 hσ26 => ?_
          refine J_bind fun x27 hx27 => ?_
          refine J_bind fun σ28 hσ28 => ?_
          exact q_J.step (fun g => j_icmp_f rfl (cc_ge_f h25) (j_iconst (1 : Int32) rfl k32_1 (j_goto rfl (j_bas rfl (by decide) hσ26 (j_aload_n rfl rfl (j_gfr rfl hx27 (j_iload rfl rfl (j_iconst (0 : Int32) rfl k32_0 (j_bas rfl (by decide) hσ28 (j_iinc [some (.ref v0), some (.ref v1), some (.int v2), some (.int (v3 - (x15 + (1 : Int32)))), some (.int (v4 + (1 : Int32)))] (v4 + (1 : Int32)) rfl rfl (by rw [k32_1]) (Or.inr rfl) rfl (j_goto rfl (g)))))))))))) (l_Wo_bear_L18 hd v0 v1 v2 hX n (v3 - (x15 + (1 : Int32))) (v4 + (1 : Int32)) σ28)
        refine J_bind fun σ29 hσ29 => ?_
        refine J_bind fun x30 hx30 => ?_
        refine J_bind fun σ31 hσ31 => ?_
        exact q_J.step (fun g => j_icmp_t rfl (cc_ge_t h25) (j_iconst (0 : Int32) rfl k32_0 (j_bas rfl (by decide) hσ29 (j_aload_n rfl rfl (j_gfr rfl hx30 (j_iload rfl rfl (j_iconst (0 : Int32) rfl k32_0 (j_bas rfl (by decide) hσ31 (j_iinc [some (.ref v0), some (.ref v1), some (.int v2), some (.int (v3 - (x15 + (1 : Int32)))), some (.int (v4 + (1 : Int32)))] (v4 + (1 : Int32)) rfl rfl (by rw [k32_1]) (Or.inr rfl) rfl (j_goto rfl (g))))))))))) (l_Wo_bear_L18 hd v0 v1 v2 hX n (v3 - (x15 + (1 : Int32))) (v4 + (1 : Int32)) σ31)
      exact J_some (fun h => j_icmp_t rfl (cc_ge_t h3) (j_weak (l := [none, none, none, none, none]) (And.intro (Or.inl rfl) (And.intro (Or.inl rfl) (And.intro (Or.inl rfl) (And.intro (Or.inl rfl) (And.intro (Or.inl rfl) True.intro))))) (hX _ _ h)))
    exact J_some (fun h => j_icmp_t rfl (cc_ge_t h2) (j_weak (l := [none, none, none, none, none]) (And.intro (Or.inl rfl) (And.intro (Or.inl rfl) (And.intro (Or.inl rfl) (And.intro (Or.inl rfl) (And.intro (Or.inl rfl) True.intro))))) (hX _ _ h)))

set_option maxRecDepth 100000 in
theorem b_Wo_bear {fo : Option Nat} {d : Nat} (hd : 2 ≤ d + 1) {o : q_O} {σ' : q_H} (v0 : Nat) (v1 : Nat) (v2 : Int32) (σ : q_H) : q_J (fun (r : Unit) (σ1 : q_H) => o = .inl none ∧ σ' = σ1) (f_Wo_bear v0 v1 v2 σ) (q_G (q_rf fo) d m_Wo_bear o σ' 0 [some (.ref v0), some (.ref v1), some (.int v2), none, none] [] σ) := by
  unfold f_Wo_bear
  refine J_bind fun w1 hw1 => ?_
  refine J_cl fun x3 σ2 hσ2 => ?_
  refine J_bind fun σ4 hσ4 => ?_
  refine J_sq (fun (t5 : Unit) (σ6 : q_H) => q_G (q_rf fo) d m_Wo_bear o σ' 119 [none, none, none, none, none] [] σ6) (q_J.step (fun g => j_aload_n rfl rfl (j_aload_n rfl rfl (j_bipush (6 : Int32) rfl kb_6 (j_v1 [.ref v0, .int (6 : Int32)] [.ref v0] rfl rfl rfl rfl rfl rfl hw1 (Or.inl rfl) (t_Wo_draw (by omega) hσ2) (j_iconst (1 : Int32) rfl k32_1 (j_iadd rfl (j_putf rfl rfl rfl rfl hσ4 (j_bipush (45 : Int32) rfl kb_45 (j_istore_n [some (.ref v0), some (.ref v1), some (.int v2), some (.int (45 : Int32)), none] rfl rfl (Or.inr rfl) rfl (j_iconst (0 : Int32) rfl k32_0 (j_istore [some (.ref v0), some (.ref v1), some (.int v2), some (.int (45 : Int32)), some (.int (0 : Int32))] rfl rfl (Or.inr rfl) rfl (g)))))))))))) (l_Wo_bear_L18 hd v0 v1 v2 (fun _ _ h => h) q_FU (45 : Int32) (0 : Int32) σ4)) (fun t5 σ6 => ?_)
  exact J_some (fun h => j_vret rfl rfl h)
theorem t_Wo_bear {fo : Option Nat} {d : Nat} (hd : 2 ≤ d) {v0 : Nat} {v1 : Nat} {v2 : Int32} {σ σ1 : q_H} {r : Unit} (h : f_Wo_bear v0 v1 v2 σ = some (r, σ1)) : q_Rel (q_rf fo) q_Ms d 43 [.ref v0, .ref v1, .int v2] σ (.inl none) σ1 := by
  obtain ⟨d, rfl⟩ : ∃ d1, d = d1 + 1 := ⟨d - 1, by omega⟩
  exact q_Rel.of rfl rfl (b_Wo_bear hd _ _ _ σ _ _ h ⟨rfl, rfl⟩)

set_option maxRecDepth 100000 in
theorem l_Wo_marry_L2 {fo : Option Nat} {d : Nat} (hd : 2 ≤ d + 1) {o : q_O} {σ' : q_H} {E : (Unit) → q_H → Prop} (v0 : Nat) (v1 : Int32) (v2 : Int32) (hX : ∀ (t : Unit) σ1, E (t) σ1 → q_G (q_rf fo) d m_Wo_marry o σ' 103 [none, none, none, none, none] [] σ1)  : ∀ (n : Nat) (v3 : Int32) (σ : q_H), q_J E (f_Wo_marry_L2 v0 v1 v2 n v3 σ) (q_G (q_rf fo) d m_Wo_marry o σ' 2 [some (.ref v0), some (.int v1), some (.int v2), some (.int v3), none] [] σ)
  | 0, v3, σ => J_none
  | n + 1, v3, σ => by
    unfold f_Wo_marry_L2
    refine J_bind fun x1 hx1 => ?_
    refine q_J.step (fun g => j_iload_n rfl rfl (j_aload_n rfl rfl (j_gfi rfl hx1 (g)))) ?_
    refine J_ite (fun h2 => ?_) (fun h2 => ?_)
    · refine q_J.step (fun g => j_icmp_f rfl (cc_ge_f h2) (j_iload_n rfl rfl (j_bipush (6 : Int32) rfl kb_6 (g)))) ?_
      refine J_ite (fun h3 => ?_) (fun h3 => ?_)
      · refine J_bind fun x4 hx4 => ?_
        refine J_bind fun x5 hx5 => ?_
        refine q_J.step (fun g => j_icmp_f rfl (cc_ge_f h3) (j_aload_n rfl rfl (j_gfr rfl hx4 (j_iload_n rfl rfl (j_bal rfl rfl hx5 (g)))))) ?_
        refine J_ite (fun h6 => ?_) (fun h6 => ?_)
        · refine J_bind fun x7 hx7 => ?_
          refine J_bind fun x8 hx8 => ?_
          refine q_J.step (fun g => j_if_f rfl (cc_ne_f h6) (j_aload_n rfl rfl (j_gfr rfl hx7 (j_iload_n rfl rfl (j_bal rfl rfl hx8 (g)))))) ?_
          refine J_ite (fun h9 => ?_) (fun h9 => ?_)
          · exact q_J.step (fun g => j_if_t rfl (cc_eq_t h9) (j_iinc [some (.ref v0), some (.int v1), some (.int v2), some (.int (v3 + (1 : Int32))), none] (v3 + (1 : Int32)) rfl rfl (by rw [k32_1]) (Or.inr rfl) rfl (j_goto rfl (g)))) (l_Wo_marry_L2 hd v0 v1 v2 hX n (v3 + (1 : Int32)) σ)
          refine J_bind fun x10 hx10 => ?_
          refine J_bind fun x11 hx11 => ?_
          refine q_J.step (fun g => j_if_f rfl (cc_eq_f h9) (j_aload_n rfl rfl (j_gfr rfl hx10 (j_iload_n rfl rfl (j_ial rfl hx11 (j_bipush (15 : Int32) rfl kb_15 (g))))))) ?_
          refine J_ite (fun h12 => ?_) (fun h12 => ?_)
          · exact q_J.step (fun g => j_icmp_t rfl (cc_lt_t h12) (j_iinc [some (.ref v0), some (.int v1), some (.int v2), some (.int (v3 + (1 : Int32))), none] (v3 + (1 : Int32)) rfl rfl (by rw [k32_1]) (Or.inr rfl) rfl (j_goto rfl (g)))) (l_Wo_marry_L2 hd v0 v1 v2 hX n (v3 + (1 : Int32)) σ)
          refine J_bind fun x13 hx13 => ?_
          refine J_bind fun σ14 hσ14 => ?_
          refine J_bind fun w15 hw15 => ?_
          refine J_cl fun x17 σ16 hσ16 => ?_
          refine q_J.step (fun g => j_icmp_f rfl (cc_lt_f h12) (j_aload_n rfl rfl (j_dup rfl rfl (j_gfi rfl hx13 (j_iconst (1 : Int32) rfl k32_1 (j_iadd rfl (j_putf rfl rfl rfl rfl hσ14 (j_aload_n rfl rfl (j_iload_n rfl rfl (j_iload_n rfl rfl (j_v1 [.ref v0, .int v3, .int v1] [] rfl rfl rfl rfl rfl rfl hw15 (Or.inl rfl) (t_Wo_oldestSisterFor (by omega) hσ16) (j_istore [some (.ref v0), some (.int v1), some (.int v2), some (.int v3), some (.int x17)] rfl rfl (Or.inr rfl) rfl (j_iload rfl rfl (j_iconst (-1 : Int32) rfl k32_m1 (g))))))))))))))) ?_
          refine J_ite (fun h18 => ?_) (fun h18 => ?_)
          · exact q_J.step (fun g => j_icmp_t rfl (cc_eq_t h18) (j_iinc [some (.ref v0), some (.int v1), some (.int v2), some (.int (v3 + (1 : Int32))), some (.int x17)] (v3 + (1 : Int32)) rfl rfl (by rw [k32_1]) (Or.inr rfl) rfl (j_goto rfl (j_weak (l := [some (.ref v0), some (.int v1), some (.int v2), some (.int (v3 + (1 : Int32))), none]) (And.intro (Or.inr rfl) (And.intro (Or.inr rfl) (And.intro (Or.inr rfl) (And.intro (Or.inr rfl) (And.intro (Or.inl rfl) True.intro))))) (g))))) (l_Wo_marry_L2 hd v0 v1 v2 hX n (v3 + (1 : Int32)) σ16)
          refine J_bind fun w19 hw19 => ?_
          refine J_cl fun x21 σ20 hσ20 => ?_
          refine q_J.step (fun g => j_icmp_f rfl (cc_eq_f h18) (j_aload_n rfl rfl (j_bipush (10 : Int32) rfl kb_10 (j_v1 [.ref v0, .int (10 : Int32)] [] rfl rfl rfl rfl rfl rfl hw19 (Or.inl rfl) (t_Wo_draw (by omega) hσ20) (j_iload_n rfl rfl (g)))))) ?_
          refine J_ite (fun h22 => ?_) (fun h22 => ?_)
          · refine J_bind fun x23 hx23 => ?_
            refine J_bind fun σ24 hσ24 => ?_
            refine J_bind fun x25 hx25 => ?_
            refine J_bind fun σ26 hσ26 => ?_
            exact q_J.step (fun g => j_icmp_f rfl (cc_ge_f h22) (j_aload_n rfl rfl (j_gfr rfl hx23 (j_iload rfl rfl (j_iconst (1 : Int32) rfl k32_1 (j_bas rfl (by decide) hσ24 (j_aload_n rfl rfl (j_dup rfl rfl (j_gfi rfl hx25 (j_iconst (1 : Int32) rfl k32_1 (j_iadd rfl (j_putf rfl rfl rfl rfl hσ26 (j_iinc [some (.ref v0), some (.int v1), some (.int v2), some (.int (v3 + (1 : Int32))), some (.int x17)] (v3 + (1 : Int32)) rfl rfl (by rw [k32_1]) (Or.inr rfl) rfl (j_goto rfl (j_weak (l := [some (.ref v0), some (.int v1), some (.int v2), some (.int (v3 + (1 : Int32))), none]) (And.intro (Or.inr rfl) (And.intro (Or.inr rfl) (And.intro (Or.inr rfl) (And.intro (Or.inr rfl) (And.intro (Or.inl rfl) True.intro))))) (g)))))))))))))))) (l_Wo_marry_L2 hd v0 v1 v2 hX n (v3 + (1 : Int32)) σ26)
          exact q_J.step (fun g => j_icmp_t rfl (cc_ge_t h22) (j_iinc [some (.ref v0), some (.int v1), some (.int v2), some (.int (v3 + (1 : Int32))), some (.int x17)] (v3 + (1 : Int32)) rfl rfl (by rw [k32_1]) (Or.inr rfl) rfl (j_goto rfl (j_weak (l := [some (.ref v0), some (.int v1), some (.int v2), some (.int (v3 + (1 : Int32))), none]) (And.intro (Or.inr rfl) (And.intro (Or.inr rfl) (And.intro (Or.inr rfl) (And.intro (Or.inr rfl) (And.intro (Or.inl rfl) True.intro))))) (g))))) (l_Wo_marry_L2 hd v0 v1 v2 hX n (v3 + (1 : Int32)) σ20)
        exact q_J.step (fun g => j_if_t rfl (cc_ne_t h6) (j_iinc [some (.ref v0), some (.int v1), some (.int v2), some (.int (v3 + (1 : Int32))), none] (v3 + (1 : Int32)) rfl rfl (by rw [k32_1]) (Or.inr rfl) rfl (j_goto rfl (g)))) (l_Wo_marry_L2 hd v0 v1 v2 hX n (v3 + (1 : Int32)) σ)
      exact J_some (fun h => j_icmp_t rfl (cc_ge_t h3) (j_weak (l := [none, none, none, none, none]) (And.intro (Or.inl rfl) (And.intro (Or.inl rfl) (And.intro (Or.inl rfl) (And.intro (Or.inl rfl) (And.intro (Or.inr rfl) True.intro))))) (hX _ _ h)))
    exact J_some (fun h => j_icmp_t rfl (cc_ge_t h2) (j_weak (l := [none, none, none, none, none]) (And.intro (Or.inl rfl) (And.intro (Or.inl rfl) (And.intro (Or.inl rfl) (And.intro (Or.inl rfl) (And.intro (Or.inr rfl) True.intro))))) (hX _ _ h)))

set_option maxRecDepth 100000 in
theorem b_Wo_marry {fo : Option Nat} {d : Nat} (hd : 2 ≤ d + 1) {o : q_O} {σ' : q_H} (v0 : Nat) (v1 : Int32) (v2 : Int32) (σ : q_H) : q_J (fun (r : Unit) (σ1 : q_H) => o = .inl none ∧ σ' = σ1) (f_Wo_marry v0 v1 v2 σ) (q_G (q_rf fo) d m_Wo_marry o σ' 0 [some (.ref v0), some (.int v1), some (.int v2), none, none] [] σ) := by
  unfold f_Wo_marry
  refine J_sq (fun (t1 : Unit) (σ2 : q_H) => q_G (q_rf fo) d m_Wo_marry o σ' 103 [none, none, none, none, none] [] σ2) (q_J.step (fun g => j_iconst (0 : Int32) rfl k32_0 (j_istore_n [some (.ref v0), some (.int v1), some (.int v2), some (.int (0 : Int32)), none] rfl rfl (Or.inr rfl) rfl (g))) (l_Wo_marry_L2 hd v0 v1 v2 (fun _ _ h => h) q_FU (0 : Int32) σ)) (fun t1 σ2 => ?_)
  exact J_some (fun h => j_vret rfl rfl h)
theorem t_Wo_marry {fo : Option Nat} {d : Nat} (hd : 2 ≤ d) {v0 : Nat} {v1 : Int32} {v2 : Int32} {σ σ1 : q_H} {r : Unit} (h : f_Wo_marry v0 v1 v2 σ = some (r, σ1)) : q_Rel (q_rf fo) q_Ms d 45 [.ref v0, .int v1, .int v2] σ (.inl none) σ1 := by
  obtain ⟨d, rfl⟩ : ∃ d1, d = d1 + 1 := ⟨d - 1, by omega⟩
  exact q_Rel.of rfl rfl (b_Wo_marry hd _ _ _ σ _ _ h ⟨rfl, rfl⟩)

set_option maxRecDepth 100000 in
theorem l_La_allows_L4 {fo : Option Nat} {d : Nat} (hd : 2 ≤ d + 1) {o : q_O} {σ' : q_H} {E : (Int32 ⊕ Unit) → q_H → Prop} (v0 : Nat) (v1 : Nat) (hR : ∀ r σ1, E (.inl r) σ1 → o = .inl (some (.int r)) ∧ σ' = σ1) (hX : ∀ (t : Unit) σ1, E (.inr t) σ1 → q_G (q_rf fo) d m_La_allows o σ' 198 [none, none, none, none, none, none] [] σ1)  : ∀ (n : Nat) (v2 : Int32) (v3 : Int32) (σ : q_H), q_J E (f_La_allows_L4 v0 v1 n v2 v3 σ) (q_G (q_rf fo) d m_La_allows o σ' 4 [some (.ref v0), some (.ref v1), some (.int v2), some (.int v3), none, none] [] σ)
  | 0, v2, v3, σ => J_none
  | n + 1, v2, v3, σ => by
    unfold f_La_allows_L4
    refine J_bind fun x1 hx1 => ?_
    refine q_J.step (fun g => j_iload_n rfl rfl (j_aload_n rfl rfl (j_gfi rfl hx1 (g)))) ?_
    refine J_ite (fun h2 => ?_) (fun h2 => ?_)
    · refine J_bind fun x3 hx3 => ?_
      refine J_bind fun x4 hx4 => ?_
      refine q_J.step (fun g => j_icmp_f rfl (cc_ge_f h2) (j_iload_n rfl rfl (j_aload_n rfl rfl (j_gfr rfl hx3 (j_alen rfl hx4 (g)))))) ?_
      refine J_ite (fun h5 => ?_) (fun h5 => ?_)
      · refine J_bind fun x6 hx6 => ?_
        refine J_bind fun x7 hx7 => ?_
        refine q_J.step (fun g => j_icmp_f rfl (cc_ge_f h5) (j_aload_n rfl rfl (j_gfr rfl hx6 (j_iload_n rfl rfl (j_ial rfl hx7 (j_istore [some (.ref v0), some (.ref v1), some (.int v2), some (.int v3), some (.int x7), none] rfl rfl (Or.inr rfl) rfl (j_iload rfl rfl (j_sipush (20000 : Int32) rfl ks_20000 (g))))))))) ?_
        refine J_ite (fun h8 => ?_) (fun h8 => ?_)
        · refine q_J.step (fun g => j_icmp_f rfl (cc_ne_f h8) (j_iload_n rfl rfl (g))) ?_
          refine J_ite (fun h9 => ?_) (fun h9 => ?_)
          · refine J_bind fun x10 hx10 => ?_
            refine J_bind fun x11 hx11 => ?_
            refine q_J.step (fun g => j_if_f rfl (cc_le_f h9) (j_aload_n rfl rfl (j_gfr rfl hx10 (j_iload_n rfl rfl (j_iconst (1 : Int32) rfl k32_1 (j_isub rfl (j_ial rfl hx11 (g)))))))) ?_
            refine J_ite (fun h12 => ?_) (fun h12 => ?_)
            · exact q_J.step (fun g => j_if_t rfl (cc_eq_t h12) (j_iconst (0 : Int32) rfl k32_0 (j_istore_n [some (.ref v0), some (.ref v1), some (.int (0 : Int32)), some (.int v3), some (.int x7), none] rfl rfl (Or.inr rfl) rfl (j_goto rfl (j_iinc [some (.ref v0), some (.ref v1), some (.int (0 : Int32)), some (.int (v3 + (1 : Int32))), some (.int x7), none] (v3 + (1 : Int32)) rfl rfl (by rw [k32_1]) (Or.inr rfl) rfl (j_goto rfl (j_weak (l := [some (.ref v0), some (.ref v1), some (.int (0 : Int32)), some (.int (v3 + (1 : Int32))), none, none]) (And.intro (Or.inr rfl) (And.intro (Or.inr rfl) (And.intro (Or.inr rfl) (And.intro (Or.inr rfl) (And.intro (Or.inl rfl) (And.intro (Or.inr rfl) True.intro)))))) (g)))))))) (l_La_allows_L4 hd v0 v1 hR hX n (0 : Int32) (v3 + (1 : Int32)) σ)
            exact J_some (fun h => j_if_f rfl (cc_eq_f h12) (j_iconst (1 : Int32) rfl k32_1 (j_iret rfl (q_zr (Or.inr rfl)) (hR _ _ h))))
          exact q_J.step (fun g => j_if_t rfl (cc_le_t h9) (j_iconst (0 : Int32) rfl k32_0 (j_istore_n [some (.ref v0), some (.ref v1), some (.int (0 : Int32)), some (.int v3), some (.int x7), none] rfl rfl (Or.inr rfl) rfl (j_goto rfl (j_iinc [some (.ref v0), some (.ref v1), some (.int (0 : Int32)), some (.int (v3 + (1 : Int32))), some (.int x7), none] (v3 + (1 : Int32)) rfl rfl (by rw [k32_1]) (Or.inr rfl) rfl (j_goto rfl (j_weak (l := [some (.ref v0), some (.ref v1), some (.int (0 : Int32)), some (.int (v3 + (1 : Int32))), none, none]) (And.intro (Or.inr rfl) (And.intro (Or.inr rfl) (And.intro (Or.inr rfl) (And.intro (Or.inr rfl) (And.intro (Or.inl rfl) (And.intro (Or.inr rfl) True.intro)))))) (g)))))))) (l_La_allows_L4 hd v0 v1 hR hX n (0 : Int32) (v3 + (1 : Int32)) σ)
        refine q_J.step (fun g => j_icmp_t rfl (cc_ne_t h8) (j_iload rfl rfl (j_sipush (20001 : Int32) rfl ks_20001 (g)))) ?_
        refine J_ite (fun h13 => ?_) (fun h13 => ?_)
        · refine q_J.step (fun g => j_icmp_f rfl (cc_ne_f h13) (j_iload_n rfl rfl (g))) ?_
          refine J_ite (fun h14 => ?_) (fun h14 => ?_)
          · refine J_bind fun x15 hx15 => ?_
            refine J_bind fun x16 hx16 => ?_
            refine J_bind fun x17 hx17 => ?_
            refine q_J.step (fun g => j_if_f rfl (cc_le_f h14) (j_aload_n rfl rfl (j_gfr rfl hx15 (j_iload_n rfl rfl (j_iconst (1 : Int32) rfl k32_1 (j_isub rfl (j_aload_n rfl rfl (j_gfr rfl hx16 (j_iload_n rfl rfl (j_iconst (1 : Int32) rfl k32_1 (j_isub rfl (j_ial rfl hx17 (g))))))))))))) ?_
            refine J_ite (fun h18 => ?_) (fun h18 => ?_)
            · refine J_bind fun σ19 hσ19 => ?_
              exact q_J.step (fun g => j_if_f rfl (cc_ne_f h18) (j_iconst (1 : Int32) rfl k32_1 (j_goto rfl (j_ias rfl hσ19 (j_goto rfl (j_iinc [some (.ref v0), some (.ref v1), some (.int v2), some (.int (v3 + (1 : Int32))), some (.int x7), none] (v3 + (1 : Int32)) rfl rfl (by rw [k32_1]) (Or.inr rfl) rfl (j_goto rfl (j_weak (l := [some (.ref v0), some (.ref v1), some (.int v2), some (.int (v3 + (1 : Int32))), none, none]) (And.intro (Or.inr rfl) (And.intro (Or.inr rfl) (And.intro (Or.inr rfl) (And.intro (Or.inr rfl) (And.intro (Or.inl rfl) (And.intro (Or.inr rfl) True.intro)))))) (g))))))))) (l_La_allows_L4 hd v0 v1 hR hX n v2 (v3 + (1 : Int32)) σ19)
            refine J_bind fun σ20 hσ20 => ?_
            exact q_J.step (fun g => j_if_t rfl (cc_ne_t h18) (j_iconst (0 : Int32) rfl k32_0 (j_ias rfl hσ20 (j_goto rfl (j_iinc [some (.ref v0), some (.ref v1), some (.int v2), some (.int (v3 + (1 : Int32))), some (.int x7), none] (v3 + (1 : Int32)) rfl rfl (by rw [k32_1]) (Or.inr rfl) rfl (j_goto rfl (j_weak (l := [some (.ref v0), some (.ref v1), some (.int v2), some (.int (v3 + (1 : Int32))), none, none]) (And.intro (Or.inr rfl) (And.intro (Or.inr rfl) (And.intro (Or.inr rfl) (And.intro (Or.inr rfl) (And.intro (Or.inl rfl) (And.intro (Or.inr rfl) True.intro)))))) (g)))))))) (l_La_allows_L4 hd v0 v1 hR hX n v2 (v3 + (1 : Int32)) σ20)
          exact q_J.step (fun g => j_if_t rfl (cc_le_t h14) (j_iinc [some (.ref v0), some (.ref v1), some (.int v2), some (.int (v3 + (1 : Int32))), some (.int x7), none] (v3 + (1 : Int32)) rfl rfl (by rw [k32_1]) (Or.inr rfl) rfl (j_goto rfl (j_weak (l := [some (.ref v0), some (.ref v1), some (.int v2), some (.int (v3 + (1 : Int32))), none, none]) (And.intro (Or.inr rfl) (And.intro (Or.inr rfl) (And.intro (Or.inr rfl) (And.intro (Or.inr rfl) (And.intro (Or.inl rfl) (And.intro (Or.inr rfl) True.intro)))))) (g))))) (l_La_allows_L4 hd v0 v1 hR hX n v2 (v3 + (1 : Int32)) σ)
        refine q_J.step (fun g => j_icmp_t rfl (cc_ne_t h13) (j_iload rfl rfl (j_sipush (20001 : Int32) rfl ks_20001 (g)))) ?_
        refine J_ite (fun h21 => ?_) (fun h21 => ?_)
        · refine q_J.step (fun g => j_icmp_f rfl (cc_le_f h21) (j_iload_n rfl rfl (j_iconst (1 : Int32) rfl k32_1 (g)))) ?_
          refine J_ite (fun h22 => ?_) (fun h22 => ?_)
          · refine J_bind fun x23 hx23 => ?_
            refine J_bind fun x24 hx24 => ?_
            refine J_bind fun x25 hx25 => ?_
            refine J_bind fun x26 hx26 => ?_
            refine J_bind fun x27 hx27 => ?_
            refine J_cl fun x29 σ28 hσ28 => ?_
            refine J_bind fun σ30 hσ30 => ?_
            exact q_J.step (fun g => j_icmp_f rfl (cc_le_f h22) (j_iinc [some (.ref v0), some (.ref v1), some (.int (v2 + (-1 : Int32))), some (.int v3), some (.int x7), none] (v2 + (-1 : Int32)) rfl rfl (by rw [k32_m1]) (Or.inr rfl) rfl (j_aload_n rfl rfl (j_gfr rfl hx23 (j_iload_n rfl rfl (j_iconst (1 : Int32) rfl k32_1 (j_isub rfl (j_iload rfl rfl (j_aload_n rfl rfl (j_gfr rfl hx24 (j_iload_n rfl rfl (j_iconst (1 : Int32) rfl k32_1 (j_isub rfl (j_ial rfl hx25 (j_aload_n rfl rfl (j_gfr rfl hx26 (j_iload_n rfl rfl (j_ial rfl hx27 (j_s1 [.int x7, .int x25, .int x27] [.int ((v2 + (-1 : Int32)) - (1 : Int32)), .ref x23] rfl rfl rfl rfl rfl (t_La_joined (by omega) hσ28) (j_ias rfl hσ30 (j_goto rfl (j_iinc [some (.ref v0), some (.ref v1), some (.int (v2 + (-1 : Int32))), some (.int (v3 + (1 : Int32))), some (.int x7), none] (v3 + (1 : Int32)) rfl rfl (by rw [k32_1]) (Or.inr rfl) rfl (j_goto rfl (j_weak (l := [some (.ref v0), some (.ref v1), some (.int (v2 + (-1 : Int32))), some (.int (v3 + (1 : Int32))), none, none]) (And.intro (Or.inr rfl) (And.intro (Or.inr rfl) (And.intro (Or.inr rfl) (And.intro (Or.inr rfl) (And.intro (Or.inl rfl) (And.intro (Or.inr rfl) True.intro)))))) (g))))))))))))))))))))))))) (l_La_allows_L4 hd v0 v1 hR hX n (v2 + (-1 : Int32)) (v3 + (1 : Int32)) σ30)
          exact q_J.step (fun g => j_icmp_t rfl (cc_le_t h22) (j_iinc [some (.ref v0), some (.ref v1), some (.int v2), some (.int (v3 + (1 : Int32))), some (.int x7), none] (v3 + (1 : Int32)) rfl rfl (by rw [k32_1]) (Or.inr rfl) rfl (j_goto rfl (j_weak (l := [some (.ref v0), some (.ref v1), some (.int v2), some (.int (v3 + (1 : Int32))), none, none]) (And.intro (Or.inr rfl) (And.intro (Or.inr rfl) (And.intro (Or.inr rfl) (And.intro (Or.inr rfl) (And.intro (Or.inl rfl) (And.intro (Or.inr rfl) True.intro)))))) (g))))) (l_La_allows_L4 hd v0 v1 hR hX n v2 (v3 + (1 : Int32)) σ)
        refine J_bind fun x31 hx31 => ?_
        refine J_bind fun x32 hx32 => ?_
        refine q_J.step (fun g => j_icmp_t rfl (cc_le_t h21) (j_iload_n rfl rfl (j_aload_n rfl rfl (j_gfr rfl hx31 (j_alen rfl hx32 (g)))))) ?_
        refine J_ite (fun h33 => ?_) (fun h33 => ?_)
        · refine J_bind fun x34 hx34 => ?_
          refine J_bind fun x35 hx35 => ?_
          refine J_cl fun x37 σ36 hσ36 => ?_
          refine q_J.step (fun g => j_icmp_f rfl (cc_ge_f h33) (j_iload rfl rfl (j_sipush (10000 : Int32) rfl ks_10000 (j_isub rfl (j_istore [some (.ref v0), some (.ref v1), some (.int v2), some (.int v3), some (.int x7), some (.int (x7 - (10000 : Int32)))] rfl rfl (Or.inr rfl) rfl (j_aload_n rfl rfl (j_gfr rfl hx34 (j_iload_n rfl rfl (j_iconst (0 : Int32) rfl k32_0 (j_iload rfl rfl (j_aload_n rfl rfl (j_alen rfl hx35 (j_iconst (1 : Int32) rfl k32_1 (j_isub rfl (g))))))))))))))) ?_
          refine q_J.step (fun g => j_s1 [.int (0 : Int32), .int (x7 - (10000 : Int32)), .int (x35 - (1 : Int32))] [.int v2, .ref x34] rfl rfl rfl rfl rfl (t_Rs_isFrom (by omega) hσ36) (g)) ?_
          refine J_ite (fun h38 => ?_) (fun h38 => ?_)
          · refine J_bind fun σ39 hσ39 => ?_
            exact q_J.step (fun g => j_if_t rfl (cc_eq_t h38) (j_iload rfl rfl (j_ias rfl hσ39 (j_iinc [some (.ref v0), some (.ref v1), some (.int (v2 + (1 : Int32))), some (.int v3), some (.int x7), some (.int (x7 - (10000 : Int32)))] (v2 + (1 : Int32)) rfl rfl (by rw [k32_1]) (Or.inr rfl) rfl (j_iinc [some (.ref v0), some (.ref v1), some (.int (v2 + (1 : Int32))), some (.int (v3 + (1 : Int32))), some (.int x7), some (.int (x7 - (10000 : Int32)))] (v3 + (1 : Int32)) rfl rfl (by rw [k32_1]) (Or.inr rfl) rfl (j_goto rfl (j_weak (l := [some (.ref v0), some (.ref v1), some (.int (v2 + (1 : Int32))), some (.int (v3 + (1 : Int32))), none, none]) (And.intro (Or.inr rfl) (And.intro (Or.inr rfl) (And.intro (Or.inr rfl) (And.intro (Or.inr rfl) (And.intro (Or.inl rfl) (And.intro (Or.inl rfl) True.intro)))))) (g)))))))) (l_La_allows_L4 hd v0 v1 hR hX n (v2 + (1 : Int32)) (v3 + (1 : Int32)) σ39)
          refine J_bind fun x40 hx40 => ?_
          refine J_bind fun σ41 hσ41 => ?_
          exact q_J.step (fun g => j_if_f rfl (cc_eq_f h38) (j_aload_n rfl rfl (j_iload rfl rfl (j_ial rfl hx40 (j_goto rfl (j_ias rfl hσ41 (j_iinc [some (.ref v0), some (.ref v1), some (.int (v2 + (1 : Int32))), some (.int v3), some (.int x7), some (.int (x7 - (10000 : Int32)))] (v2 + (1 : Int32)) rfl rfl (by rw [k32_1]) (Or.inr rfl) rfl (j_iinc [some (.ref v0), some (.ref v1), some (.int (v2 + (1 : Int32))), some (.int (v3 + (1 : Int32))), some (.int x7), some (.int (x7 - (10000 : Int32)))] (v3 + (1 : Int32)) rfl rfl (by rw [k32_1]) (Or.inr rfl) rfl (j_goto rfl (j_weak (l := [some (.ref v0), some (.ref v1), some (.int (v2 + (1 : Int32))), some (.int (v3 + (1 : Int32))), none, none]) (And.intro (Or.inr rfl) (And.intro (Or.inr rfl) (And.intro (Or.inr rfl) (And.intro (Or.inr rfl) (And.intro (Or.inl rfl) (And.intro (Or.inl rfl) True.intro)))))) (g))))))))))) (l_La_allows_L4 hd v0 v1 hR hX n (v2 + (1 : Int32)) (v3 + (1 : Int32)) σ41)
        exact q_J.step (fun g => j_icmp_t rfl (cc_ge_t h33) (j_iinc [some (.ref v0), some (.ref v1), some (.int v2), some (.int (v3 + (1 : Int32))), some (.int x7), none] (v3 + (1 : Int32)) rfl rfl (by rw [k32_1]) (Or.inr rfl) rfl (j_goto rfl (j_weak (l := [some (.ref v0), some (.ref v1), some (.int v2), some (.int (v3 + (1 : Int32))), none, none]) (And.intro (Or.inr rfl) (And.intro (Or.inr rfl) (And.intro (Or.inr rfl) (And.intro (Or.inr rfl) (And.intro (Or.inl rfl) (And.intro (Or.inr rfl) True.intro)))))) (g))))) (l_La_allows_L4 hd v0 v1 hR hX n v2 (v3 + (1 : Int32)) σ)
      exact J_some (fun h => j_icmp_t rfl (cc_ge_t h5) (j_weak (l := [none, none, none, none, none, none]) (And.intro (Or.inl rfl) (And.intro (Or.inl rfl) (And.intro (Or.inl rfl) (And.intro (Or.inl rfl) (And.intro (Or.inr rfl) (And.intro (Or.inr rfl) True.intro)))))) (hX _ _ h)))
    exact J_some (fun h => j_icmp_t rfl (cc_ge_t h2) (j_weak (l := [none, none, none, none, none, none]) (And.intro (Or.inl rfl) (And.intro (Or.inl rfl) (And.intro (Or.inl rfl) (And.intro (Or.inl rfl) (And.intro (Or.inr rfl) (And.intro (Or.inr rfl) True.intro)))))) (hX _ _ h)))

set_option maxRecDepth 100000 in
theorem b_La_allows {fo : Option Nat} {d : Nat} (hd : 2 ≤ d + 1) {o : q_O} {σ' : q_H} (v0 : Nat) (v1 : Nat) (σ : q_H) : q_J (fun (r : Int32) (σ1 : q_H) => o = .inl (some (.int r)) ∧ σ' = σ1) (f_La_allows v0 v1 σ) (q_G (q_rf fo) d m_La_allows o σ' 0 [some (.ref v0), some (.ref v1), none, none, none, none] [] σ) := by
  unfold f_La_allows
  refine J_sq (fun (t0 : Int32 ⊕ Unit) (σ2 : q_H) => match t0 with | .inl r => o = .inl (some (.int r)) ∧ σ' = σ2 | .inr t1 => q_G (q_rf fo) d m_La_allows o σ' 198 [none, none, none, none, none, none] [] σ2) (q_J.step (fun g => j_iconst (0 : Int32) rfl k32_0 (j_istore_n [some (.ref v0), some (.ref v1), some (.int (0 : Int32)), none, none, none] rfl rfl (Or.inr rfl) rfl (j_iconst (0 : Int32) rfl k32_0 (j_istore_n [some (.ref v0), some (.ref v1), some (.int (0 : Int32)), some (.int (0 : Int32)), none, none] rfl rfl (Or.inr rfl) rfl (g))))) (l_La_allows_L4 hd v0 v1 (fun _ _ h => h) (fun _ _ h => h) q_FU (0 : Int32) (0 : Int32) σ)) (fun t0 σ2 => ?_)
  cases t0 with
  | inl r3 => exact J_some (fun h => h)
  | inr t1 =>
    exact J_some (fun h => j_iconst (0 : Int32) rfl k32_0 (j_iret rfl (q_zr (Or.inl rfl)) h))
theorem t_La_allows {fo : Option Nat} {d : Nat} (hd : 2 ≤ d) {v0 : Nat} {v1 : Nat} {σ σ1 : q_H} {r : Int32} (h : f_La_allows v0 v1 σ = some (r, σ1)) : q_Rel (q_rf fo) q_Ms d 48 [.ref v0, .ref v1] σ (.inl (some (.int r))) σ1 := by
  obtain ⟨d, rfl⟩ : ∃ d1, d = d1 + 1 := ⟨d - 1, by omega⟩
  exact q_Rel.of rfl rfl (b_La_allows hd _ _ σ _ _ h ⟨rfl, rfl⟩)

set_option maxRecDepth 100000 in
theorem b_Pa_init {fo : Option Nat} {d : Nat} (hd : 2 ≤ d + 1) {o : q_O} {σ' : q_H} (v0 : Nat) (σ : q_H) : q_J (fun (r : Unit) (σ1 : q_H) => o = .inl none ∧ σ' = σ1) (f_Pa_init v0 σ) (q_G (q_rf fo) d m_Pa_init o σ' 0 [some (.ref v0)] [] σ) := by
  unfold f_Pa_init
  refine J_ma fun σ1 a2 hσ1 ha2 => ?_
  refine J_bind fun σ3 hσ3 => ?_
  refine J_ma fun σ4 a5 hσ4 ha5 => ?_
  refine J_bind fun σ6 hσ6 => ?_
  refine J_ma fun σ7 a8 hσ7 ha8 => ?_
  refine J_bind fun σ9 hσ9 => ?_
  refine J_ma fun σ10 a11 hσ10 ha11 => ?_
  refine J_bind fun σ12 hσ12 => ?_
  refine J_ma fun σ13 a14 hσ13 ha14 => ?_
  refine J_bind fun σ15 hσ15 => ?_
  refine J_ma fun σ16 a17 hσ16 ha17 => ?_
  refine J_bind fun σ18 hσ18 => ?_
  refine J_ma fun σ19 a20 hσ19 ha20 => ?_
  refine J_bind fun σ21 hσ21 => ?_
  refine J_ma fun σ22 a23 hσ22 ha23 => ?_
  refine J_bind fun σ24 hσ24 => ?_
  refine J_ma fun σ25 a26 hσ25 ha26 => ?_
  refine J_bind fun σ27 hσ27 => ?_
  refine J_ma fun σ28 a29 hσ28 ha29 => ?_
  refine J_bind fun σ30 hσ30 => ?_
  refine J_ma fun σ31 a32 hσ31 ha32 => ?_
  refine J_cl fun _ σ33 hσ33 => ?_
  refine J_bind fun σ35 hσ35 => ?_
  exact J_some (fun h => j_aload_n rfl rfl (j_obj rfl rfl (j_aload_n rfl rfl (j_bipush (12 : Int32) rfl kb_12 (j_newk 12 (.long 0) rfl rfl rfl (by decide) (by decide) hσ1 ha2 (j_putf rfl rfl rfl rfl hσ3 (j_aload_n rfl rfl (j_bipush (12 : Int32) rfl kb_12 (j_newk 12 (.long 0) rfl rfl rfl (by decide) (by decide) hσ4 ha5 (j_putf rfl rfl rfl rfl hσ6 (j_aload_n rfl rfl (j_bipush (12 : Int32) rfl kb_12 (j_newk 12 (.long 0) rfl rfl rfl (by decide) (by decide) hσ7 ha8 (j_putf rfl rfl rfl rfl hσ9 (j_aload_n rfl rfl (j_bipush (12 : Int32) rfl kb_12 (j_newk 12 (.int 0) rfl rfl rfl (by decide) (by decide) hσ10 ha11 (j_putf rfl rfl rfl rfl hσ12 (j_aload_n rfl rfl (j_bipush (12 : Int32) rfl kb_12 (j_newk 12 (.int 0) rfl rfl rfl (by decide) (by decide) hσ13 ha14 (j_putf rfl rfl rfl rfl hσ15 (j_aload_n rfl rfl (j_bipush (12 : Int32) rfl kb_12 (j_newk 12 (.int 0) rfl rfl rfl (by decide) (by decide) hσ16 ha17 (j_putf rfl rfl rfl rfl hσ18 (j_aload_n rfl rfl (j_bipush (12 : Int32) rfl kb_12 (j_newk 12 (.int 0) rfl rfl rfl (by decide) (by decide) hσ19 ha20 (j_putf rfl rfl rfl rfl hσ21 (j_aload_n rfl rfl (j_bipush (12 : Int32) rfl kb_12 (j_newk 12 (.int 0) rfl rfl rfl (by decide) (by decide) hσ22 ha23 (j_putf rfl rfl rfl rfl hσ24 (j_aload_n rfl rfl (j_bipush (12 : Int32) rfl kb_12 (j_newk 12 (.int 0) rfl rfl rfl (by decide) (by decide) hσ25 ha26 (j_putf rfl rfl rfl rfl hσ27 (j_aload_n rfl rfl (j_bipush (12 : Int32) rfl kb_12 (j_newk 12 (.int 0) rfl rfl rfl (by decide) (by decide) hσ28 ha29 (j_putf rfl rfl rfl rfl hσ30 (j_aload_n rfl rfl (j_newk2 [.null] rfl rfl rfl hσ31 ha32 (j_dup rfl rfl (j_i0 [.ref a32] [.ref a32, .ref v0] rfl rfl rfl rfl rfl rfl (t_Ty_init (by omega) hσ33) (j_putf rfl rfl rfl rfl hσ35 (j_vret rfl rfl h))))))))))))))))))))))))))))))))))))))))))))))))
theorem t_Pa_init {fo : Option Nat} {d : Nat} (hd : 2 ≤ d) {v0 : Nat} {σ σ1 : q_H} {r : Unit} (h : f_Pa_init v0 σ = some (r, σ1)) : q_Rel (q_rf fo) q_Ms d 60 [.ref v0] σ (.inl none) σ1 := by
  obtain ⟨d, rfl⟩ : ∃ d1, d = d1 + 1 := ⟨d - 1, by omega⟩
  exact q_Rel.of rfl rfl (b_Pa_init hd _ σ _ _ h ⟨rfl, rfl⟩)

set_option maxRecDepth 100000 in
theorem b_Pa_has {fo : Option Nat} {d : Nat} (hd : 2 ≤ d + 1) {o : q_O} {σ' : q_H} (v0 : Nat) (v1 : Int32) (σ : q_H) : q_J (fun (r : Int32) (σ1 : q_H) => o = .inl (some (.int r)) ∧ σ' = σ1) (f_Pa_has v0 v1 σ) (q_G (q_rf fo) d m_Pa_has o σ' 0 [some (.ref v0), some (.int v1)] [] σ) := by
  unfold f_Pa_has
  refine J_bind fun x1 hx1 => ?_
  refine J_cl fun x3 σ2 hσ2 => ?_
  refine q_J.step (fun g => j_iconst (0 : Int32) rfl k32_0 (j_iload_n rfl rfl (j_aload_n rfl rfl (j_gfi rfl hx1 (j_iconst (1 : Int32) rfl k32_1 (j_isub rfl (j_s1 [.int (0 : Int32), .int v1, .int (x1 - (1 : Int32))] [] rfl rfl rfl rfl rfl (t_Rs_isFrom (by omega) hσ2) (g)))))))) ?_
  refine J_ite (fun _ => J_none) (fun hz => ?_)
  replace hz := Decidable.not_not.mp hz
  exact J_some (fun h => j_iret rfl (q_zr hz) h)
theorem t_Pa_has {fo : Option Nat} {d : Nat} (hd : 2 ≤ d) {v0 : Nat} {v1 : Int32} {σ σ1 : q_H} {r : Int32} (h : f_Pa_has v0 v1 σ = some (r, σ1)) : q_Rel (q_rf fo) q_Ms d 64 [.ref v0, .int v1] σ (.inl (some (.int r))) σ1 := by
  obtain ⟨d, rfl⟩ : ∃ d1, d = d1 + 1 := ⟨d - 1, by omega⟩
  exact q_Rel.of rfl rfl (b_Pa_has hd _ _ σ _ _ h ⟨rfl, rfl⟩)

set_option maxRecDepth 100000 in
theorem b_Pa_sortOf {fo : Option Nat} {d : Nat} (hd : 2 ≤ d + 1) {o : q_O} {σ' : q_H} (v0 : Nat) (v1 : Int32) (v2 : Int32) (σ : q_H) : q_J (fun (r : Int32) (σ1 : q_H) => o = .inl (some (.int r)) ∧ σ' = σ1) (f_Pa_sortOf v0 v1 v2 σ) (q_G (q_rf fo) d m_Pa_sortOf o σ' 0 [some (.ref v0), some (.int v1), some (.int v2)] [] σ) := by
  unfold f_Pa_sortOf
  refine J_bind fun w1 hw1 => ?_
  refine J_cl fun x3 σ2 hσ2 => ?_
  refine q_J.step (fun g => j_aload_n rfl rfl (j_iload_n rfl rfl (j_aload_n rfl rfl (j_iload_n rfl rfl (j_v1 [.ref v0, .int v1, .ref v0, .int v2] [] rfl rfl rfl rfl rfl rfl hw1 (Or.inl rfl) (t_Pa_isFull (by omega) hσ2) (g)))))) ?_
  refine J_ite (fun h4 => ?_) (fun h4 => ?_)
  · refine J_bind fun w5 hw5 => ?_
    refine J_cl fun x7 σ6 hσ6 => ?_
    refine q_J.step (fun g => j_if_t rfl (cc_eq_t h4) (j_aload_n rfl rfl (j_iload_n rfl rfl (j_iload_n rfl rfl (j_v1 [.ref v0, .int v1, .int v2] [] rfl rfl rfl rfl rfl rfl hw5 (Or.inl rfl) (t_Pa_isHalf (by omega) hσ6) (g)))))) ?_
    refine J_ite (fun h8 => ?_) (fun h8 => ?_)
    · refine J_bind fun x9 hx9 => ?_
      refine J_bind fun x10 hx10 => ?_
      refine q_J.step (fun g => j_if_t rfl (cc_eq_t h8) (j_aload_n rfl rfl (j_gfr rfl hx9 (j_iload_n rfl rfl (j_ial rfl hx10 (j_iload_n rfl rfl (g))))))) ?_
      refine J_ite (fun h11 => ?_) (fun h11 => ?_)
      · refine J_bind fun x12 hx12 => ?_
        refine J_bind fun x13 hx13 => ?_
        refine q_J.step (fun g => j_icmp_t rfl (cc_eq_t h11) (j_aload_n rfl rfl (j_gfr rfl hx12 (j_iload_n rfl rfl (j_ial rfl hx13 (j_iconst (1 : Int32) rfl k32_1 (j_iand rfl (g)))))))) ?_
        refine J_ite (fun h14 => ?_) (fun h14 => ?_)
        · exact J_some (fun h => j_if_f rfl (cc_ne_f h14) (j_iconst (2 : Int32) rfl k32_2 (j_goto rfl (j_iret rfl rfl h))))
        exact J_some (fun h => j_if_t rfl (cc_ne_t h14) (j_iconst (3 : Int32) rfl k32_3 (j_iret rfl rfl h)))
      exact J_some (fun h => j_icmp_f rfl (cc_eq_f h11) (j_iconst (4 : Int32) rfl k32_4 (j_iret rfl rfl h)))
    exact J_some (fun h => j_if_f rfl (cc_eq_f h8) (j_iconst (1 : Int32) rfl k32_1 (j_iret rfl rfl h)))
  exact J_some (fun h => j_if_f rfl (cc_eq_f h4) (j_iconst (0 : Int32) rfl k32_0 (j_iret rfl rfl h)))
theorem t_Pa_sortOf {fo : Option Nat} {d : Nat} (hd : 2 ≤ d) {v0 : Nat} {v1 : Int32} {v2 : Int32} {σ σ1 : q_H} {r : Int32} (h : f_Pa_sortOf v0 v1 v2 σ = some (r, σ1)) : q_Rel (q_rf fo) q_Ms d 65 [.ref v0, .int v1, .int v2] σ (.inl (some (.int r))) σ1 := by
  obtain ⟨d, rfl⟩ : ∃ d1, d = d1 + 1 := ⟨d - 1, by omega⟩
  exact q_Rel.of rfl rfl (b_Pa_sortOf hd _ _ _ σ _ _ h ⟨rfl, rfl⟩)

set_option maxRecDepth 100000 in
theorem l_Pa_fullOthers_L6 {fo : Option Nat} {d : Nat} (hd : 2 ≤ d + 1) {o : q_O} {σ' : q_H} {E : (Int32) → q_H → Prop} (v0 : Nat) (v1 : Int32) (v2 : Int32) (v3 : Int32) (hX : ∀ (t : Int32) σ1, E (t) σ1 → q_G (q_rf fo) d m_Pa_fullOthers o σ' 58 [none, none, none, none, some (.int t), none] [] σ1)  : ∀ (n : Nat) (v4 : Int32) (v5 : Int32) (σ : q_H), q_J E (f_Pa_fullOthers_L6 v0 v1 v2 v3 n v4 v5 σ) (q_G (q_rf fo) d m_Pa_fullOthers o σ' 6 [some (.ref v0), some (.int v1), some (.int v2), some (.int v3), some (.int v4), some (.int v5)] [] σ)
  | 0, v4, v5, σ => J_none
  | n + 1, v4, v5, σ => by
    unfold f_Pa_fullOthers_L6
    refine J_bind fun x1 hx1 => ?_
    refine q_J.step (fun g => j_iload rfl rfl (j_aload_n rfl rfl (j_gfi rfl hx1 (g)))) ?_
    refine J_ite (fun h2 => ?_) (fun h2 => ?_)
    · refine q_J.step (fun g => j_icmp_f rfl (cc_ge_f h2) (j_iload rfl rfl (j_iload_n rfl rfl (g)))) ?_
      refine J_ite (fun h3 => ?_) (fun h3 => ?_)
      · exact q_J.step (fun g => j_icmp_t rfl (cc_eq_t h3) (j_iinc [some (.ref v0), some (.int v1), some (.int v2), some (.int v3), some (.int v4), some (.int (v5 + (1 : Int32)))] (v5 + (1 : Int32)) rfl rfl (by rw [k32_1]) (Or.inr rfl) rfl (j_goto rfl (g)))) (l_Pa_fullOthers_L6 hd v0 v1 v2 v3 hX n v4 (v5 + (1 : Int32)) σ)
      refine q_J.step (fun g => j_icmp_f rfl (cc_eq_f h3) (j_iload rfl rfl (j_iload_n rfl rfl (g)))) ?_
      refine J_ite (fun h4 => ?_) (fun h4 => ?_)
      · exact q_J.step (fun g => j_icmp_t rfl (cc_eq_t h4) (j_iinc [some (.ref v0), some (.int v1), some (.int v2), some (.int v3), some (.int v4), some (.int (v5 + (1 : Int32)))] (v5 + (1 : Int32)) rfl rfl (by rw [k32_1]) (Or.inr rfl) rfl (j_goto rfl (g)))) (l_Pa_fullOthers_L6 hd v0 v1 v2 v3 hX n v4 (v5 + (1 : Int32)) σ)
      refine J_bind fun x5 hx5 => ?_
      refine J_bind fun x6 hx6 => ?_
      refine q_J.step (fun g => j_icmp_f rfl (cc_eq_f h4) (j_aload_n rfl rfl (j_gfr rfl hx5 (j_iload rfl rfl (j_bal rfl rfl hx6 (j_iload_n rfl rfl (g))))))) ?_
      refine J_ite (fun h7 => ?_) (fun h7 => ?_)
      · refine J_bind fun w8 hw8 => ?_
        refine J_cl fun x10 σ9 hσ9 => ?_
        refine q_J.step (fun g => j_icmp_f rfl (cc_ne_f h7) (j_aload_n rfl rfl (j_iload_n rfl rfl (j_aload_n rfl rfl (j_iload rfl rfl (j_v1 [.ref v0, .int v1, .ref v0, .int v5] [] rfl rfl rfl rfl rfl rfl hw8 (Or.inl rfl) (t_Pa_isFull (by omega) hσ9) (g))))))) ?_
        refine J_ite (fun h11 => ?_) (fun h11 => ?_)
        · exact q_J.step (fun g => j_if_t rfl (cc_eq_t h11) (j_iinc [some (.ref v0), some (.int v1), some (.int v2), some (.int v3), some (.int v4), some (.int (v5 + (1 : Int32)))] (v5 + (1 : Int32)) rfl rfl (by rw [k32_1]) (Or.inr rfl) rfl (j_goto rfl (g)))) (l_Pa_fullOthers_L6 hd v0 v1 v2 v3 hX n v4 (v5 + (1 : Int32)) σ9)
        exact q_J.step (fun g => j_if_f rfl (cc_eq_f h11) (j_iinc [some (.ref v0), some (.int v1), some (.int v2), some (.int v3), some (.int (v4 + (1 : Int32))), some (.int v5)] (v4 + (1 : Int32)) rfl rfl (by rw [k32_1]) (Or.inr rfl) rfl (j_iinc [some (.ref v0), some (.int v1), some (.int v2), some (.int v3), some (.int (v4 + (1 : Int32))), some (.int (v5 + (1 : Int32)))] (v5 + (1 : Int32)) rfl rfl (by rw [k32_1]) (Or.inr rfl) rfl (j_goto rfl (g))))) (l_Pa_fullOthers_L6 hd v0 v1 v2 v3 hX n (v4 + (1 : Int32)) (v5 + (1 : Int32)) σ9)
      exact q_J.step (fun g => j_icmp_t rfl (cc_ne_t h7) (j_iinc [some (.ref v0), some (.int v1), some (.int v2), some (.int v3), some (.int v4), some (.int (v5 + (1 : Int32)))] (v5 + (1 : Int32)) rfl rfl (by rw [k32_1]) (Or.inr rfl) rfl (j_goto rfl (g)))) (l_Pa_fullOthers_L6 hd v0 v1 v2 v3 hX n v4 (v5 + (1 : Int32)) σ)
    exact J_some (fun h => j_icmp_t rfl (cc_ge_t h2) (j_weak (l := [none, none, none, none, some (.int v4), none]) (And.intro (Or.inl rfl) (And.intro (Or.inl rfl) (And.intro (Or.inl rfl) (And.intro (Or.inl rfl) (And.intro (Or.inr rfl) (And.intro (Or.inl rfl) True.intro)))))) (hX _ _ h)))

set_option maxRecDepth 100000 in
theorem b_Pa_fullOthers {fo : Option Nat} {d : Nat} (hd : 2 ≤ d + 1) {o : q_O} {σ' : q_H} (v0 : Nat) (v1 : Int32) (v2 : Int32) (v3 : Int32) (σ : q_H) : q_J (fun (r : Int32) (σ1 : q_H) => o = .inl (some (.int r)) ∧ σ' = σ1) (f_Pa_fullOthers v0 v1 v2 v3 σ) (q_G (q_rf fo) d m_Pa_fullOthers o σ' 0 [some (.ref v0), some (.int v1), some (.int v2), some (.int v3), none, none] [] σ) := by
  unfold f_Pa_fullOthers
  refine J_sq (fun (t1 : Int32) (σ2 : q_H) => q_G (q_rf fo) d m_Pa_fullOthers o σ' 58 [none, none, none, none, some (.int t1), none] [] σ2) (q_J.step (fun g => j_iconst (0 : Int32) rfl k32_0 (j_istore [some (.ref v0), some (.int v1), some (.int v2), some (.int v3), some (.int (0 : Int32)), none] rfl rfl (Or.inr rfl) rfl (j_iconst (0 : Int32) rfl k32_0 (j_istore [some (.ref v0), some (.int v1), some (.int v2), some (.int v3), some (.int (0 : Int32)), some (.int (0 : Int32))] rfl rfl (Or.inr rfl) rfl (g))))) (l_Pa_fullOthers_L6 hd v0 v1 v2 v3 (fun _ _ h => h) q_FU (0 : Int32) (0 : Int32) σ)) (fun t1 σ2 => ?_)
  exact J_some (fun h => j_iload rfl rfl (j_iret rfl rfl h))
theorem t_Pa_fullOthers {fo : Option Nat} {d : Nat} (hd : 2 ≤ d) {v0 : Nat} {v1 : Int32} {v2 : Int32} {v3 : Int32} {σ σ1 : q_H} {r : Int32} (h : f_Pa_fullOthers v0 v1 v2 v3 σ = some (r, σ1)) : q_Rel (q_rf fo) q_Ms d 69 [.ref v0, .int v1, .int v2, .int v3] σ (.inl (some (.int r))) σ1 := by
  obtain ⟨d, rfl⟩ : ∃ d1, d = d1 + 1 := ⟨d - 1, by omega⟩
  exact q_Rel.of rfl rfl (b_Pa_fullOthers hd _ _ _ _ σ _ _ h ⟨rfl, rfl⟩)

set_option maxRecDepth 100000 in
theorem b_Pa_hasParentOf {fo : Option Nat} {d : Nat} (hd : 2 ≤ d + 1) {o : q_O} {σ' : q_H} (v0 : Nat) (v1 : Nat) (v2 : Int32) (σ : q_H) : q_J (fun (r : Int32) (σ1 : q_H) => o = .inl (some (.int r)) ∧ σ' = σ1) (f_Pa_hasParentOf v0 v1 v2 σ) (q_G (q_rf fo) d m_Pa_hasParentOf o σ' 0 [some (.ref v0), some (.ref v1), some (.int v2), none, none] [] σ) := by
  unfold f_Pa_hasParentOf
  refine J_bind fun x1 hx1 => ?_
  refine J_bind fun x2 hx2 => ?_
  refine q_J.step (fun g => j_aload_n rfl rfl (j_gfr rfl hx1 (j_iload_n rfl rfl (j_lal rfl hx2 (j_lconst (0 : Int64) rfl kl_0 (j_lcmp rfl (g))))))) ?_
  refine J_sq (fun (t9 : Int32) (σ10 : q_H) => q_G (q_rf fo) d m_Pa_hasParentOf o σ' 25 [some (.ref v0), some (.ref v1), some (.int v2), none, none] [.int t9] σ10) ?_ (fun t9 σ10 => ?_)
  · refine J_ite (fun h3 => ?_) (fun h3 => ?_)
    · exact J_some (fun h => j_if_f rfl (lc_ne_f h3) (j_iconst (-1 : Int32) rfl k32_m1 (j_goto rfl (h))))
    refine J_bind fun x4 hx4 => ?_
    refine J_bind fun x5 hx5 => ?_
    refine J_bind fun w6 hw6 => ?_
    refine J_cl fun x8 σ7 hσ7 => ?_
    exact J_some (fun h => j_if_t rfl (lc_ne_t h3) (j_aload_n rfl rfl (j_aload_n rfl rfl (j_gfr rfl hx4 (j_iload_n rfl rfl (j_lal rfl hx5 (j_v1 [.ref v0, .long x5] [] rfl rfl rfl rfl rfl rfl hw6 (Or.inl rfl) (t_Pa_lineOf (by omega) hσ7) (h))))))))
  refine J_bind fun x11 hx11 => ?_
  refine J_bind fun x12 hx12 => ?_
  refine q_J.step (fun g => j_istore_n [some (.ref v0), some (.ref v1), some (.int v2), some (.int t9), none] rfl rfl (Or.inr rfl) rfl (j_aload_n rfl rfl (j_gfr rfl hx11 (j_iload_n rfl rfl (j_lal rfl hx12 (j_lconst (0 : Int64) rfl kl_0 (j_lcmp rfl (g)))))))) ?_
  refine J_sq (fun (t19 : Int32) (σ20 : q_H) => q_G (q_rf fo) d m_Pa_hasParentOf o σ' 51 [some (.ref v0), none, none, some (.int t9), none] [.int t19] σ20) ?_ (fun t19 σ20 => ?_)
  · refine J_ite (fun h13 => ?_) (fun h13 => ?_)
    · exact J_some (fun h => j_if_f rfl (lc_ne_f h13) (j_iconst (-1 : Int32) rfl k32_m1 (j_goto rfl (j_weak (l := [some (.ref v0), none, none, some (.int t9), none]) (And.intro (Or.inr rfl) (And.intro (Or.inl rfl) (And.intro (Or.inl rfl) (And.intro (Or.inr rfl) (And.intro (Or.inr rfl) True.intro))))) (h)))))
    refine J_bind fun x14 hx14 => ?_
    refine J_bind fun x15 hx15 => ?_
    refine J_bind fun w16 hw16 => ?_
    refine J_cl fun x18 σ17 hσ17 => ?_
    exact J_some (fun h => j_if_t rfl (lc_ne_t h13) (j_aload_n rfl rfl (j_aload_n rfl rfl (j_gfr rfl hx14 (j_iload_n rfl rfl (j_lal rfl hx15 (j_v1 [.ref v0, .long x15] [] rfl rfl rfl rfl rfl rfl hw16 (Or.inl rfl) (t_Pa_lineOf (by omega) hσ17) (j_weak (l := [some (.ref v0), none, none, some (.int t9), none]) (And.intro (Or.inr rfl) (And.intro (Or.inl rfl) (And.intro (Or.inl rfl) (And.intro (Or.inr rfl) (And.intro (Or.inr rfl) True.intro))))) (h)))))))))
  refine q_J.step (fun g => j_istore [some (.ref v0), none, none, some (.int t9), some (.int t19)] rfl rfl (Or.inr rfl) rfl (j_iload_n rfl rfl (j_iconst (-1 : Int32) rfl k32_m1 (g)))) ?_
  refine J_ite (fun h21 => ?_) (fun h21 => ?_)
  · refine q_J.step (fun g => j_icmp_t rfl (cc_eq_t h21) (j_iload rfl rfl (j_iconst (-1 : Int32) rfl k32_m1 (g)))) ?_
    refine J_ite (fun h22 => ?_) (fun h22 => ?_)
    · exact J_some (fun h => j_icmp_t rfl (cc_eq_t h22) (j_iconst (0 : Int32) rfl k32_0 (j_iret rfl (q_zr (Or.inl rfl)) h)))
    refine J_bind fun x23 hx23 => ?_
    refine J_bind fun x24 hx24 => ?_
    refine q_J.step (fun g => j_icmp_f rfl (cc_eq_f h22) (j_aload_n rfl rfl (j_gfr rfl hx23 (j_iload rfl rfl (j_bal rfl rfl hx24 (g)))))) ?_
    refine J_ite (fun h25 => ?_) (fun h25 => ?_)
    · exact J_some (fun h => j_if_t rfl (cc_eq_t h25) (j_iconst (0 : Int32) rfl k32_0 (j_iret rfl (q_zr (Or.inl rfl)) h)))
    exact J_some (fun h => j_if_f rfl (cc_eq_f h25) (j_iconst (1 : Int32) rfl k32_1 (j_goto rfl (j_iret rfl (q_zr (Or.inr rfl)) h))))
  refine J_bind fun x26 hx26 => ?_
  refine J_bind fun x27 hx27 => ?_
  refine q_J.step (fun g => j_icmp_f rfl (cc_eq_f h21) (j_aload_n rfl rfl (j_gfr rfl hx26 (j_iload_n rfl rfl (j_bal rfl rfl hx27 (g)))))) ?_
  refine J_ite (fun h28 => ?_) (fun h28 => ?_)
  · exact J_some (fun h => j_if_t rfl (cc_eq_t h28) (j_iconst (1 : Int32) rfl k32_1 (j_goto rfl (j_iret rfl (q_zr (Or.inr rfl)) h))))
  refine q_J.step (fun g => j_if_f rfl (cc_eq_f h28) (j_iload rfl rfl (j_iconst (-1 : Int32) rfl k32_m1 (g)))) ?_
  refine J_ite (fun h29 => ?_) (fun h29 => ?_)
  · exact J_some (fun h => j_icmp_t rfl (cc_eq_t h29) (j_iconst (0 : Int32) rfl k32_0 (j_iret rfl (q_zr (Or.inl rfl)) h)))
  refine J_bind fun x30 hx30 => ?_
  refine J_bind fun x31 hx31 => ?_
  refine q_J.step (fun g => j_icmp_f rfl (cc_eq_f h29) (j_aload_n rfl rfl (j_gfr rfl hx30 (j_iload rfl rfl (j_bal rfl rfl hx31 (g)))))) ?_
  refine J_ite (fun h32 => ?_) (fun h32 => ?_)
  · exact J_some (fun h => j_if_t rfl (cc_eq_t h32) (j_iconst (0 : Int32) rfl k32_0 (j_iret rfl (q_zr (Or.inl rfl)) h)))
  exact J_some (fun h => j_if_f rfl (cc_eq_f h32) (j_iconst (1 : Int32) rfl k32_1 (j_goto rfl (j_iret rfl (q_zr (Or.inr rfl)) h))))
theorem t_Pa_hasParentOf {fo : Option Nat} {d : Nat} (hd : 2 ≤ d) {v0 : Nat} {v1 : Nat} {v2 : Int32} {σ σ1 : q_H} {r : Int32} (h : f_Pa_hasParentOf v0 v1 v2 σ = some (r, σ1)) : q_Rel (q_rf fo) q_Ms d 71 [.ref v0, .ref v1, .int v2] σ (.inl (some (.int r))) σ1 := by
  obtain ⟨d, rfl⟩ : ∃ d1, d = d1 + 1 := ⟨d - 1, by omega⟩
  exact q_Rel.of rfl rfl (b_Pa_hasParentOf hd _ _ _ σ _ _ h ⟨rfl, rfl⟩)

set_option maxRecDepth 100000 in
theorem b_Sr_isName {fo : Option Nat} {d : Nat} (hd : 2 ≤ d + 1) {o : q_O} {σ' : q_H} (v0 : Nat) (σ : q_H) : q_J (fun (r : Int32) (σ1 : q_H) => o = .inl (some (.int r)) ∧ σ' = σ1) (f_Sr_isName v0 σ) (q_G (q_rf fo) d m_Sr_isName o σ' 0 [some (.ref v0)] [] σ) := by
  unfold f_Sr_isName
  refine J_bind fun x1 hx1 => ?_
  refine J_bind fun x2 hx2 => ?_
  refine q_J.step (fun g => j_aload_n rfl rfl (j_gfr rfl hx1 (j_gfi rfl hx2 (j_iconst (1 : Int32) rfl k32_1 (g))))) ?_
  refine J_ite (fun h3 => ?_) (fun h3 => ?_)
  · refine J_bind fun x4 hx4 => ?_
    refine J_bind fun x5 hx5 => ?_
    refine J_bind fun w6 hw6 => ?_
    refine J_cl fun x8 σ7 hσ7 => ?_
    refine q_J.step (fun g => j_icmp_f rfl (cc_ne_f h3) (j_aload_n rfl rfl (j_gfr rfl hx4 (j_aload_n rfl rfl (j_gfr rfl hx5 (j_v1 [.ref x4, .ref x5] [] rfl rfl rfl rfl rfl rfl hw6 (Or.inl rfl) (t_Ta_wordIn (by omega) hσ7) (j_iconst (-1 : Int32) rfl k32_m1 (g)))))))) ?_
    refine J_ite (fun h9 => ?_) (fun h9 => ?_)
    · exact J_some (fun h => j_icmp_f rfl (cc_ne_f h9) (j_iconst (1 : Int32) rfl k32_1 (j_goto rfl (j_iret rfl (q_zr (Or.inr rfl)) h))))
    exact J_some (fun h => j_icmp_t rfl (cc_ne_t h9) (j_iconst (0 : Int32) rfl k32_0 (j_iret rfl (q_zr (Or.inl rfl)) h)))
  exact J_some (fun h => j_icmp_t rfl (cc_ne_t h3) (j_iconst (0 : Int32) rfl k32_0 (j_iret rfl (q_zr (Or.inl rfl)) h)))
theorem t_Sr_isName {fo : Option Nat} {d : Nat} (hd : 2 ≤ d) {v0 : Nat} {σ σ1 : q_H} {r : Int32} (h : f_Sr_isName v0 σ = some (r, σ1)) : q_Rel (q_rf fo) q_Ms d 75 [.ref v0] σ (.inl (some (.int r))) σ1 := by
  obtain ⟨d, rfl⟩ : ∃ d1, d = d1 + 1 := ⟨d - 1, by omega⟩
  exact q_Rel.of rfl rfl (b_Sr_isName hd _ σ _ _ h ⟨rfl, rfl⟩)

set_option maxRecDepth 100000 in
theorem b_Sr_takeName {fo : Option Nat} {d : Nat} (hd : 2 ≤ d + 1) {o : q_O} {σ' : q_H} (v0 : Nat) (v1 : Int32) (v2 : Int32) (σ : q_H) : q_J (fun (r : Int32) (σ1 : q_H) => o = .inl (some (.int r)) ∧ σ' = σ1) (f_Sr_takeName v0 v1 v2 σ) (q_G (q_rf fo) d m_Sr_takeName o σ' 0 [some (.ref v0), some (.int v1), some (.int v2), none] [] σ) := by
  unfold f_Sr_takeName
  refine q_J.step (fun g => j_iload_n rfl rfl (g)) ?_
  refine J_ite (fun h1 => ?_) (fun h1 => ?_)
  · refine J_bind fun x2 hx2 => ?_
    refine J_bind fun x3 hx3 => ?_
    refine J_bind fun x4 hx4 => ?_
    refine J_bind fun x5 hx5 => ?_
    refine J_bind fun σ6 hσ6 => ?_
    exact J_some (fun h => j_if_f rfl (cc_ne_f h1) (j_aload_n rfl rfl (j_gfr rfl hx2 (j_gfr rfl hx3 (j_iload_n rfl rfl (j_aload_n rfl rfl (j_gfr rfl hx4 (j_gfl rfl hx5 (j_las rfl hσ6 (j_iconst (0 : Int32) rfl k32_0 (j_iret rfl rfl h)))))))))))
  refine q_J.step (fun g => j_if_t rfl (cc_ne_t h1) (j_iload_n rfl rfl (j_iconst (1 : Int32) rfl k32_1 (g)))) ?_
  refine J_ite (fun h7 => ?_) (fun h7 => ?_)
  · refine J_bind fun x8 hx8 => ?_
    refine J_bind fun x9 hx9 => ?_
    refine J_bind fun x10 hx10 => ?_
    refine J_bind fun x11 hx11 => ?_
    refine J_bind fun σ12 hσ12 => ?_
    exact J_some (fun h => j_icmp_f rfl (cc_ne_f h7) (j_aload_n rfl rfl (j_gfr rfl hx8 (j_gfr rfl hx9 (j_iload_n rfl rfl (j_aload_n rfl rfl (j_gfr rfl hx10 (j_gfl rfl hx11 (j_las rfl hσ12 (j_iconst (0 : Int32) rfl k32_0 (j_iret rfl rfl h)))))))))))
  refine J_bind fun x13 hx13 => ?_
  refine J_bind fun x14 hx14 => ?_
  refine J_bind fun x15 hx15 => ?_
  refine J_bind fun w16 hw16 => ?_
  refine J_cl fun x18 σ17 hσ17 => ?_
  refine q_J.step (fun g => j_icmp_t rfl (cc_ne_t h7) (j_aload_n rfl rfl (j_gfr rfl hx13 (j_aload_n rfl rfl (j_gfr rfl hx14 (j_gfl rfl hx15 (j_v1 [.ref x13, .long x15] [] rfl rfl rfl rfl rfl rfl hw16 (Or.inl rfl) (t_Pa_lineOf (by omega) hσ17) (j_istore_n [some (.ref v0), some (.int v1), some (.int v2), some (.int x18)] rfl rfl (Or.inr rfl) rfl (j_iload_n rfl rfl (j_iconst (-1 : Int32) rfl k32_m1 (g))))))))))) ?_
  refine J_ite (fun h19 => ?_) (fun h19 => ?_)
  · refine J_bind fun x20 hx20 => ?_
    refine J_bind fun w21 hw21 => ?_
    refine J_cl fun x23 σ22 hσ22 => ?_
    exact J_some (fun h => j_icmp_t rfl (cc_eq_t h19) (j_aload_n rfl rfl (j_gfr rfl hx20 (j_iconst (2 : Int32) rfl k32_2 (j_v1 [.ref x20, .int (2 : Int32)] [] rfl rfl rfl rfl rfl rfl hw21 (Or.inl rfl) (t_Ta_fault (by omega) hσ22) (j_iret rfl rfl h))))))
  refine q_J.step (fun g => j_icmp_f rfl (cc_eq_f h19) (j_iload_n rfl rfl (j_iconst (2 : Int32) rfl k32_2 (g)))) ?_
  refine J_ite (fun h24 => ?_) (fun h24 => ?_)
  · refine J_bind fun x25 hx25 => ?_
    refine J_bind fun x26 hx26 => ?_
    refine J_bind fun x27 hx27 => ?_
    refine q_J.step (fun g => j_icmp_f rfl (cc_ne_f h24) (j_aload_n rfl rfl (j_gfr rfl hx25 (j_gfr rfl hx26 (j_iload_n rfl rfl (j_bal rfl rfl hx27 (g))))))) ?_
    refine J_ite (fun h28 => ?_) (fun h28 => ?_)
    · refine q_J.step (fun g => j_if_t rfl (cc_eq_t h28) (j_iload_n rfl rfl (j_iconst (3 : Int32) rfl k32_3 (g)))) ?_
      refine J_ite (fun h29 => ?_) (fun h29 => ?_)
      · refine J_bind fun x30 hx30 => ?_
        refine J_bind fun x31 hx31 => ?_
        refine J_bind fun σ32 hσ32 => ?_
        exact J_some (fun h => j_icmp_f rfl (cc_ne_f h29) (j_aload_n rfl rfl (j_gfr rfl hx30 (j_gfr rfl hx31 (j_iload_n rfl rfl (j_iload_n rfl rfl (j_ias rfl hσ32 (j_iconst (0 : Int32) rfl k32_0 (j_iret rfl rfl h)))))))))
      refine J_bind fun x33 hx33 => ?_
      refine J_bind fun w34 hw34 => ?_
      refine J_cl fun x36 σ35 hσ35 => ?_
      refine q_J.step (fun g => j_icmp_t rfl (cc_ne_t h29) (j_aload_n rfl rfl (j_gfr rfl hx33 (j_iload_n rfl rfl (j_v1 [.ref x33, .int x18] [] rfl rfl rfl rfl rfl rfl hw34 (Or.inl rfl) (t_Pa_hasWife (by omega) hσ35) (g)))))) ?_
      refine J_ite (fun h37 => ?_) (fun h37 => ?_)
      · refine J_bind fun x38 hx38 => ?_
        refine J_bind fun x39 hx39 => ?_
        refine J_bind fun σ40 hσ40 => ?_
        exact J_some (fun h => j_if_t rfl (cc_eq_t h37) (j_aload_n rfl rfl (j_gfr rfl hx38 (j_gfr rfl hx39 (j_iload_n rfl rfl (j_iload_n rfl rfl (j_ias rfl hσ40 (j_iconst (0 : Int32) rfl k32_0 (j_iret rfl rfl h)))))))))
      refine J_bind fun x41 hx41 => ?_
      refine J_bind fun w42 hw42 => ?_
      refine J_cl fun x44 σ43 hσ43 => ?_
      exact J_some (fun h => j_if_f rfl (cc_eq_f h37) (j_aload_n rfl rfl (j_gfr rfl hx41 (j_iconst (3 : Int32) rfl k32_3 (j_v1 [.ref x41, .int (3 : Int32)] [] rfl rfl rfl rfl rfl rfl hw42 (Or.inl rfl) (t_Ta_fault (by omega) hσ43) (j_iret rfl rfl h))))))
    refine J_bind fun x45 hx45 => ?_
    refine J_bind fun w46 hw46 => ?_
    refine J_cl fun x48 σ47 hσ47 => ?_
    exact J_some (fun h => j_if_f rfl (cc_eq_f h28) (j_aload_n rfl rfl (j_gfr rfl hx45 (j_iconst (2 : Int32) rfl k32_2 (j_v1 [.ref x45, .int (2 : Int32)] [] rfl rfl rfl rfl rfl rfl hw46 (Or.inl rfl) (t_Ta_fault (by omega) hσ47) (j_iret rfl rfl h))))))
  refine q_J.step (fun g => j_icmp_t rfl (cc_ne_t h24) (j_iload_n rfl rfl (j_iconst (3 : Int32) rfl k32_3 (g)))) ?_
  refine J_ite (fun h49 => ?_) (fun h49 => ?_)
  · refine J_bind fun x50 hx50 => ?_
    refine J_bind fun x51 hx51 => ?_
    refine J_bind fun σ52 hσ52 => ?_
    exact J_some (fun h => j_icmp_f rfl (cc_ne_f h49) (j_aload_n rfl rfl (j_gfr rfl hx50 (j_gfr rfl hx51 (j_iload_n rfl rfl (j_iload_n rfl rfl (j_ias rfl hσ52 (j_iconst (0 : Int32) rfl k32_0 (j_iret rfl rfl h)))))))))
  refine J_bind fun x53 hx53 => ?_
  refine J_bind fun w54 hw54 => ?_
  refine J_cl fun x56 σ55 hσ55 => ?_
  refine q_J.step (fun g => j_icmp_t rfl (cc_ne_t h49) (j_aload_n rfl rfl (j_gfr rfl hx53 (j_iload_n rfl rfl (j_v1 [.ref x53, .int x18] [] rfl rfl rfl rfl rfl rfl hw54 (Or.inl rfl) (t_Pa_hasWife (by omega) hσ55) (g)))))) ?_
  refine J_ite (fun h57 => ?_) (fun h57 => ?_)
  · refine J_bind fun x58 hx58 => ?_
    refine J_bind fun x59 hx59 => ?_
    refine J_bind fun σ60 hσ60 => ?_
    exact J_some (fun h => j_if_t rfl (cc_eq_t h57) (j_aload_n rfl rfl (j_gfr rfl hx58 (j_gfr rfl hx59 (j_iload_n rfl rfl (j_iload_n rfl rfl (j_ias rfl hσ60 (j_iconst (0 : Int32) rfl k32_0 (j_iret rfl rfl h)))))))))
  refine J_bind fun x61 hx61 => ?_
  refine J_bind fun w62 hw62 => ?_
  refine J_cl fun x64 σ63 hσ63 => ?_
  exact J_some (fun h => j_if_f rfl (cc_eq_f h57) (j_aload_n rfl rfl (j_gfr rfl hx61 (j_iconst (3 : Int32) rfl k32_3 (j_v1 [.ref x61, .int (3 : Int32)] [] rfl rfl rfl rfl rfl rfl hw62 (Or.inl rfl) (t_Ta_fault (by omega) hσ63) (j_iret rfl rfl h))))))
theorem t_Sr_takeName {fo : Option Nat} {d : Nat} (hd : 2 ≤ d) {v0 : Nat} {v1 : Int32} {v2 : Int32} {σ σ1 : q_H} {r : Int32} (h : f_Sr_takeName v0 v1 v2 σ = some (r, σ1)) : q_Rel (q_rf fo) q_Ms d 78 [.ref v0, .int v1, .int v2] σ (.inl (some (.int r))) σ1 := by
  obtain ⟨d, rfl⟩ : ∃ d1, d = d1 + 1 := ⟨d - 1, by omega⟩
  exact q_Rel.of rfl rfl (b_Sr_takeName hd _ _ _ σ _ _ h ⟨rfl, rfl⟩)

set_option maxRecDepth 100000 in
theorem b_Sf_isTold {fo : Option Nat} {d : Nat} (hd : 2 ≤ d + 1) {o : q_O} {σ' : q_H} (v0 : Nat) (v1 : Int32) (σ : q_H) : q_J (fun (r : Int32) (σ1 : q_H) => o = .inl (some (.int r)) ∧ σ' = σ1) (f_Sf_isTold v0 v1 σ) (q_G (q_rf fo) d m_Sf_isTold o σ' 0 [some (.ref v0), some (.int v1)] [] σ) := by
  unfold f_Sf_isTold
  refine J_cl fun x2 σ1 hσ1 => ?_
  refine q_J.step (fun g => j_iconst (0 : Int32) rfl k32_0 (j_iload_n rfl rfl (j_bipush (23 : Int32) rfl kb_23 (j_s1 [.int (0 : Int32), .int v1, .int (23 : Int32)] [] rfl rfl rfl rfl rfl (t_Rs_isFrom (by omega) hσ1) (g))))) ?_
  refine J_ite (fun h3 => ?_) (fun h3 => ?_)
  · exact J_some (fun h => j_if_t rfl (cc_eq_t h3) (j_iconst (0 : Int32) rfl k32_0 (j_iret rfl (q_zr (Or.inl rfl)) h)))
  refine J_bind fun x4 hx4 => ?_
  refine J_bind fun x5 hx5 => ?_
  refine q_J.step (fun g => j_if_f rfl (cc_eq_f h3) (j_aload_n rfl rfl (j_gfr rfl hx4 (j_iload_n rfl rfl (j_bal rfl rfl hx5 (g)))))) ?_
  refine J_ite (fun h6 => ?_) (fun h6 => ?_)
  · exact J_some (fun h => j_if_t rfl (cc_eq_t h6) (j_iconst (0 : Int32) rfl k32_0 (j_iret rfl (q_zr (Or.inl rfl)) h)))
  exact J_some (fun h => j_if_f rfl (cc_eq_f h6) (j_iconst (1 : Int32) rfl k32_1 (j_goto rfl (j_iret rfl (q_zr (Or.inr rfl)) h))))
theorem t_Sf_isTold {fo : Option Nat} {d : Nat} (hd : 2 ≤ d) {v0 : Nat} {v1 : Int32} {σ σ1 : q_H} {r : Int32} (h : f_Sf_isTold v0 v1 σ = some (r, σ1)) : q_Rel (q_rf fo) q_Ms d 81 [.ref v0, .int v1] σ (.inl (some (.int r))) σ1 := by
  obtain ⟨d, rfl⟩ : ∃ d1, d = d1 + 1 := ⟨d - 1, by omega⟩
  exact q_Rel.of rfl rfl (b_Sf_isTold hd _ _ σ _ _ h ⟨rfl, rfl⟩)

set_option maxRecDepth 100000 in
theorem b_Sf_pageOf {fo : Option Nat} {d : Nat} (hd : 2 ≤ d + 1) {o : q_O} {σ' : q_H} (v0 : Nat) (v1 : Int32) (σ : q_H) : q_J (fun (r : Option Nat) (σ1 : q_H) => o = .inl (some (q_rf r)) ∧ σ' = σ1) (f_Sf_pageOf v0 v1 σ) (q_G (q_rf fo) d m_Sf_pageOf o σ' 0 [some (.ref v0), some (.int v1)] [] σ) := by
  unfold f_Sf_pageOf
  refine J_cl fun x2 σ1 hσ1 => ?_
  refine q_J.step (fun g => j_iconst (0 : Int32) rfl k32_0 (j_iload_n rfl rfl (j_bipush (23 : Int32) rfl kb_23 (j_s1 [.int (0 : Int32), .int v1, .int (23 : Int32)] [] rfl rfl rfl rfl rfl (t_Rs_isFrom (by omega) hσ1) (g))))) ?_
  refine J_ite (fun h3 => ?_) (fun h3 => ?_)
  · exact J_some (fun h => j_if_t rfl (cc_eq_t h3) (j_null rfl (j_aret (x := none) rfl (Or.inl ⟨_, rfl⟩) h)))
  refine J_bind fun x4 hx4 => ?_
  refine J_bind fun x5 hx5 => ?_
  exact J_some (fun h => j_if_f rfl (cc_eq_f h3) (j_aload_n rfl rfl (j_gfr rfl hx4 (j_iload_n rfl rfl (j_aalO rfl rfl hx5 (j_goto rfl (j_aret (x := x5) rfl (Or.inl ⟨_, rfl⟩) h)))))))
theorem t_Sf_pageOf {fo : Option Nat} {d : Nat} (hd : 2 ≤ d) {v0 : Nat} {v1 : Int32} {σ σ1 : q_H} {r : Option Nat} (h : f_Sf_pageOf v0 v1 σ = some (r, σ1)) : q_Rel (q_rf fo) q_Ms d 82 [.ref v0, .int v1] σ (.inl (some (q_rf r))) σ1 := by
  obtain ⟨d, rfl⟩ : ∃ d1, d = d1 + 1 := ⟨d - 1, by omega⟩
  exact q_Rel.of rfl rfl (b_Sf_pageOf hd _ _ σ _ _ h ⟨rfl, rfl⟩)

set_option maxRecDepth 100000 in
theorem b_Sf_firstBorn {fo : Option Nat} {d : Nat} (hd : 2 ≤ d + 1) {o : q_O} {σ' : q_H} (v0 : Nat) (v1 : Int32) (v2 : Nat) (v3 : Int32) (σ : q_H) : q_J (fun (r : Int32) (σ1 : q_H) => o = .inl (some (.int r)) ∧ σ' = σ1) (f_Sf_firstBorn v0 v1 v2 v3 σ) (q_G (q_rf fo) d m_Sf_firstBorn o σ' 0 [some (.ref v0), some (.int v1), some (.ref v2), some (.int v3)] [] σ) := by
  unfold f_Sf_firstBorn
  refine J_bind fun w1 hw1 => ?_
  refine J_cl fun x3 σ2 hσ2 => ?_
  refine J_bind fun x4 hx4 => ?_
  refine J_bind fun x5 hx5 => ?_
  refine J_bind fun w6 hw6 => ?_
  refine J_cl fun x8 σ7 hσ7 => ?_
  exact J_some (fun h => j_aload_n rfl rfl (j_iload_n rfl rfl (j_v1 [.ref v0, .int v1] [] rfl rfl rfl rfl rfl rfl hw1 (Or.inl rfl) (t_Sf_yearOf (by omega) hσ2) (j_aload_n rfl rfl (j_gfr rfl hx4 (j_iload_n rfl rfl (j_ial rfl hx5 (j_isub rfl (j_aload_n rfl rfl (j_iload_n rfl rfl (j_v1 [.ref v2, .int v3] [.int (x3 - x5)] rfl rfl rfl rfl rfl rfl hw6 (Or.inl rfl) (t_Pa_slack (by omega) hσ7) (j_isub rfl (j_iret rfl rfl h)))))))))))))
theorem t_Sf_firstBorn {fo : Option Nat} {d : Nat} (hd : 2 ≤ d) {v0 : Nat} {v1 : Int32} {v2 : Nat} {v3 : Int32} {σ σ1 : q_H} {r : Int32} (h : f_Sf_firstBorn v0 v1 v2 v3 σ = some (r, σ1)) : q_Rel (q_rf fo) q_Ms d 89 [.ref v0, .int v1, .ref v2, .int v3] σ (.inl (some (.int r))) σ1 := by
  obtain ⟨d, rfl⟩ : ∃ d1, d = d1 + 1 := ⟨d - 1, by omega⟩
  exact q_Rel.of rfl rfl (b_Sf_firstBorn hd _ _ _ _ σ _ _ h ⟨rfl, rfl⟩)

set_option maxRecDepth 100000 in
theorem b_Sf_lastBorn {fo : Option Nat} {d : Nat} (hd : 2 ≤ d + 1) {o : q_O} {σ' : q_H} (v0 : Nat) (v1 : Int32) (v2 : Nat) (v3 : Int32) (σ : q_H) : q_J (fun (r : Int32) (σ1 : q_H) => o = .inl (some (.int r)) ∧ σ' = σ1) (f_Sf_lastBorn v0 v1 v2 v3 σ) (q_G (q_rf fo) d m_Sf_lastBorn o σ' 0 [some (.ref v0), some (.int v1), some (.ref v2), some (.int v3)] [] σ) := by
  unfold f_Sf_lastBorn
  refine J_bind fun w1 hw1 => ?_
  refine J_cl fun x3 σ2 hσ2 => ?_
  refine J_bind fun x4 hx4 => ?_
  refine J_bind fun x5 hx5 => ?_
  refine J_bind fun w6 hw6 => ?_
  refine J_cl fun x8 σ7 hσ7 => ?_
  exact J_some (fun h => j_aload_n rfl rfl (j_iload_n rfl rfl (j_v1 [.ref v0, .int v1] [] rfl rfl rfl rfl rfl rfl hw1 (Or.inl rfl) (t_Sf_yearOf (by omega) hσ2) (j_aload_n rfl rfl (j_gfr rfl hx4 (j_iload_n rfl rfl (j_ial rfl hx5 (j_isub rfl (j_aload_n rfl rfl (j_iload_n rfl rfl (j_v1 [.ref v2, .int v3] [.int (x3 - x5)] rfl rfl rfl rfl rfl rfl hw6 (Or.inl rfl) (t_Pa_slack (by omega) hσ7) (j_iadd rfl (j_iret rfl rfl h)))))))))))))
theorem t_Sf_lastBorn {fo : Option Nat} {d : Nat} (hd : 2 ≤ d) {v0 : Nat} {v1 : Int32} {v2 : Nat} {v3 : Int32} {σ σ1 : q_H} {r : Int32} (h : f_Sf_lastBorn v0 v1 v2 v3 σ = some (r, σ1)) : q_Rel (q_rf fo) q_Ms d 91 [.ref v0, .int v1, .ref v2, .int v3] σ (.inl (some (.int r))) σ1 := by
  obtain ⟨d, rfl⟩ : ∃ d1, d = d1 + 1 := ⟨d - 1, by omega⟩
  exact q_Rel.of rfl rfl (b_Sf_lastBorn hd _ _ _ _ σ _ _ h ⟨rfl, rfl⟩)

set_option maxRecDepth 100000 in
theorem b_Rs_side {fo : Option Nat} {d : Nat} (hd : 2 ≤ d + 1) {o : q_O} {σ' : q_H} (v0 : Nat) (v1 : Int32) (v2 : Int32) (σ : q_H) : q_J (fun (r : Int32) (σ1 : q_H) => o = .inl (some (.int r)) ∧ σ' = σ1) (f_Rs_side v0 v1 v2 σ) (q_G (q_rf fo) d m_Rs_side o σ' 0 [some (.ref v0), some (.int v1), some (.int v2)] [] σ) := by
  unfold f_Rs_side
  refine J_cl fun x2 σ1 hσ1 => ?_
  refine q_J.step (fun g => j_iconst (0 : Int32) rfl k32_0 (j_iload_n rfl rfl (j_iconst (5 : Int32) rfl k32_5 (j_s1 [.int (0 : Int32), .int v1, .int (5 : Int32)] [] rfl rfl rfl rfl rfl (t_Rs_isFrom (by omega) hσ1) (g))))) ?_
  refine J_ite (fun h3 => ?_) (fun h3 => ?_)
  · exact J_some (fun h => j_if_t rfl (cc_eq_t h3) (j_iconst (0 : Int32) rfl k32_0 (j_iret rfl (q_zr (Or.inl rfl)) h)))
  refine J_cl fun x5 σ4 hσ4 => ?_
  refine q_J.step (fun g => j_if_f rfl (cc_eq_f h3) (j_iconst (0 : Int32) rfl k32_0 (j_iload_n rfl rfl (j_iconst (1 : Int32) rfl k32_1 (j_s1 [.int (0 : Int32), .int v2, .int (1 : Int32)] [] rfl rfl rfl rfl rfl (t_Rs_isFrom (by omega) hσ4) (g)))))) ?_
  refine J_ite (fun h6 => ?_) (fun h6 => ?_)
  · exact J_some (fun h => j_if_f rfl (cc_ne_f h6) (j_iconst (0 : Int32) rfl k32_0 (j_iret rfl (q_zr (Or.inl rfl)) h)))
  refine J_bind fun x7 hx7 => ?_
  refine J_bind fun x8 hx8 => ?_
  refine J_bind fun σ9 hσ9 => ?_
  exact J_some (fun h => j_if_t rfl (cc_ne_t h6) (j_aload_n rfl rfl (j_gfr rfl hx7 (j_gfr rfl hx8 (j_iload_n rfl rfl (j_iload_n rfl rfl (j_ias rfl hσ9 (j_iconst (1 : Int32) rfl k32_1 (j_iret rfl (q_zr (Or.inr rfl)) h)))))))))
theorem t_Rs_side {fo : Option Nat} {d : Nat} (hd : 2 ≤ d) {v0 : Nat} {v1 : Int32} {v2 : Int32} {σ σ1 : q_H} {r : Int32} (h : f_Rs_side v0 v1 v2 σ = some (r, σ1)) : q_Rel (q_rf fo) q_Ms d 106 [.ref v0, .int v1, .int v2] σ (.inl (some (.int r))) σ1 := by
  obtain ⟨d, rfl⟩ : ∃ d1, d = d1 + 1 := ⟨d - 1, by omega⟩
  exact q_Rel.of rfl rfl (b_Rs_side hd _ _ _ σ _ _ h ⟨rfl, rfl⟩)

set_option maxRecDepth 100000 in
theorem b_Rs_sheet {fo : Option Nat} {d : Nat} (hd : 2 ≤ d + 1) {o : q_O} {σ' : q_H} (v0 : Nat) (v1 : Int32) (v2 : Int32) (v3 : Int32) (σ : q_H) : q_J (fun (r : Int32) (σ1 : q_H) => o = .inl (some (.int r)) ∧ σ' = σ1) (f_Rs_sheet v0 v1 v2 v3 σ) (q_G (q_rf fo) d m_Rs_sheet o σ' 0 [some (.ref v0), some (.int v1), some (.int v2), some (.int v3)] [] σ) := by
  unfold f_Rs_sheet
  refine J_cl fun x2 σ1 hσ1 => ?_
  refine q_J.step (fun g => j_iconst (0 : Int32) rfl k32_0 (j_iload_n rfl rfl (j_bipush (23 : Int32) rfl kb_23 (j_s1 [.int (0 : Int32), .int v1, .int (23 : Int32)] [] rfl rfl rfl rfl rfl (t_Rs_isFrom (by omega) hσ1) (g))))) ?_
  refine J_ite (fun h3 => ?_) (fun h3 => ?_)
  · exact J_some (fun h => j_if_t rfl (cc_eq_t h3) (j_iconst (0 : Int32) rfl k32_0 (j_iret rfl (q_zr (Or.inl rfl)) h)))
  refine J_cl fun x5 σ4 hσ4 => ?_
  refine q_J.step (fun g => j_if_f rfl (cc_eq_f h3) (j_iconst (0 : Int32) rfl k32_0 (j_iload_n rfl rfl (j_iconst (5 : Int32) rfl k32_5 (j_s1 [.int (0 : Int32), .int v2, .int (5 : Int32)] [] rfl rfl rfl rfl rfl (t_Rs_isFrom (by omega) hσ4) (g)))))) ?_
  refine J_ite (fun h6 => ?_) (fun h6 => ?_)
  · exact J_some (fun h => j_if_t rfl (cc_eq_t h6) (j_iconst (0 : Int32) rfl k32_0 (j_iret rfl (q_zr (Or.inl rfl)) h)))
  refine J_cl fun x8 σ7 hσ7 => ?_
  refine q_J.step (fun g => j_if_f rfl (cc_eq_f h6) (j_iconst (0 : Int32) rfl k32_0 (j_iload_n rfl rfl (j_bipush (7 : Int32) rfl kb_7 (j_s1 [.int (0 : Int32), .int v3, .int (7 : Int32)] [] rfl rfl rfl rfl rfl (t_Rs_isFrom (by omega) hσ7) (g)))))) ?_
  refine J_ite (fun h9 => ?_) (fun h9 => ?_)
  · exact J_some (fun h => j_if_f rfl (cc_ne_f h9) (j_iconst (0 : Int32) rfl k32_0 (j_iret rfl (q_zr (Or.inl rfl)) h)))
  refine J_bind fun x10 hx10 => ?_
  refine J_bind fun w11 hw11 => ?_
  refine J_cl fun _ σ12 hσ12 => ?_
  refine J_bind fun x14 hx14 => ?_
  refine J_bind fun σ15 hσ15 => ?_
  exact J_some (fun h => j_if_t rfl (cc_ne_t h9) (j_aload_n rfl rfl (j_gfr rfl hx10 (j_iload_n rfl rfl (j_iload_n rfl rfl (j_iload_n rfl rfl (j_v0 [.ref x10, .int v1, .int v2, .int v3] [] rfl rfl rfl rfl rfl rfl hw11 (Or.inl rfl) (t_Sf_tell (by omega) hσ12) (j_aload_n rfl rfl (j_gfr rfl hx14 (j_iconst (1 : Int32) rfl k32_1 (j_putf rfl rfl (by decide) rfl hσ15 (j_iconst (1 : Int32) rfl k32_1 (j_iret rfl (q_zr (Or.inr rfl)) h)))))))))))))
theorem t_Rs_sheet {fo : Option Nat} {d : Nat} (hd : 2 ≤ d) {v0 : Nat} {v1 : Int32} {v2 : Int32} {v3 : Int32} {σ σ1 : q_H} {r : Int32} (h : f_Rs_sheet v0 v1 v2 v3 σ = some (r, σ1)) : q_Rel (q_rf fo) q_Ms d 108 [.ref v0, .int v1, .int v2, .int v3] σ (.inl (some (.int r))) σ1 := by
  obtain ⟨d, rfl⟩ : ∃ d1, d = d1 + 1 := ⟨d - 1, by omega⟩
  exact q_Rel.of rfl rfl (b_Rs_sheet hd _ _ _ _ σ _ _ h ⟨rfl, rfl⟩)

set_option maxRecDepth 100000 in
theorem b_Rs_isScope {fo : Option Nat} {d : Nat} (hd : 2 ≤ d + 1) {o : q_O} {σ' : q_H} (v0 : Int32) (v1 : Int32) (σ : q_H) : q_J (fun (r : Int32) (σ1 : q_H) => o = .inl (some (.int r)) ∧ σ' = σ1) (f_Rs_isScope v0 v1 σ) (q_G (q_rf fo) d m_Rs_isScope o σ' 0 [some (.int v0), some (.int v1)] [] σ) := by
  unfold f_Rs_isScope
  refine q_J.step (fun g => j_iload_n rfl rfl (g)) ?_
  refine J_ite (fun h1 => ?_) (fun h1 => ?_)
  · exact J_some (fun h => j_sw 32 rfl (by rw [h1]; decide) (by rw [h1]; decide) (j_iconst (1 : Int32) rfl k32_1 (j_iret rfl (q_zr (Or.inr rfl)) h)))
  refine J_ite (fun h2 => ?_) (fun h2 => ?_)
  · refine J_cl fun x4 σ3 hσ3 => ?_
    refine q_J.step (fun g => j_sw 34 rfl (by rw [h2]; decide) (by rw [h2]; decide) (j_iconst (0 : Int32) rfl k32_0 (j_iload_n rfl rfl (j_iconst (5 : Int32) rfl k32_5 (j_s1 [.int (0 : Int32), .int v1, .int (5 : Int32)] [] rfl rfl rfl rfl rfl (t_Rs_isFrom (by omega) hσ3) (g)))))) ?_
    refine J_ite (fun _ => J_none) (fun hz => ?_)
    replace hz := Decidable.not_not.mp hz
    exact J_some (fun h => j_iret rfl (q_zr hz) h)
  refine J_ite (fun h5 => ?_) (fun h5 => ?_)
  · refine J_cl fun x7 σ6 hσ6 => ?_
    refine q_J.step (fun g => j_sw 41 rfl (by rw [h5]; decide) (by rw [h5]; decide) (j_iconst (0 : Int32) rfl k32_0 (j_iload_n rfl rfl (j_bipush (7 : Int32) rfl kb_7 (j_s1 [.int (0 : Int32), .int v1, .int (7 : Int32)] [] rfl rfl rfl rfl rfl (t_Rs_isFrom (by omega) hσ6) (g)))))) ?_
    refine J_ite (fun _ => J_none) (fun hz => ?_)
    replace hz := Decidable.not_not.mp hz
    exact J_some (fun h => j_iret rfl (q_zr hz) h)
  refine J_ite (fun h8 => ?_) (fun h8 => ?_)
  · refine J_cl fun x10 σ9 hσ9 => ?_
    refine q_J.step (fun g => j_sw 49 rfl (by rw [h8]; decide) (by rw [h8]; decide) (j_iconst (0 : Int32) rfl k32_0 (j_iload_n rfl rfl (j_iconst (1 : Int32) rfl k32_1 (j_s1 [.int (0 : Int32), .int v1, .int (1 : Int32)] [] rfl rfl rfl rfl rfl (t_Rs_isFrom (by omega) hσ9) (g)))))) ?_
    refine J_ite (fun _ => J_none) (fun hz => ?_)
    replace hz := Decidable.not_not.mp hz
    exact J_some (fun h => j_iret rfl (q_zr hz) h)
  exact J_some (fun h => j_swd 56 rfl (q_swd_0_3 h1 h2 h5 h8) rfl (j_iconst (0 : Int32) rfl k32_0 (j_iret rfl (q_zr (Or.inl rfl)) h)))
theorem t_Rs_isScope {fo : Option Nat} {d : Nat} (hd : 2 ≤ d) {v0 : Int32} {v1 : Int32} {σ σ1 : q_H} {r : Int32} (h : f_Rs_isScope v0 v1 σ = some (r, σ1)) : q_Rel (q_rf fo) q_Ms d 118 [.int v0, .int v1] σ (.inl (some (.int r))) σ1 := by
  obtain ⟨d, rfl⟩ : ∃ d1, d = d1 + 1 := ⟨d - 1, by omega⟩
  exact q_Rel.of rfl rfl (b_Rs_isScope hd _ _ σ _ _ h ⟨rfl, rfl⟩)

set_option maxRecDepth 100000 in
theorem b_Rs_partOf {fo : Option Nat} {d : Nat} (hd : 2 ≤ d + 1) {o : q_O} {σ' : q_H} (v0 : Option Nat) (v1 : Int32) (σ : q_H) : q_J (fun (r : Int32) (σ1 : q_H) => o = .inl (some (.int r)) ∧ σ' = σ1) (f_Rs_partOf v0 v1 σ) (q_G (q_rf fo) d m_Rs_partOf o σ' 0 [some (q_rf v0), some (.int v1)] [] σ) := by
  unfold f_Rs_partOf
  refine q_J.step (fun g => j_aload_nO (x := v0) rfl rfl (g)) ?_
  cases ha1 : v0 with
  | none =>
    try subst ha1
    exact J_some (fun h => j_nul_t rfl (j_iconst (-1 : Int32) rfl k32_m1 (j_iret rfl rfl h)))
  | some a1 =>
    try subst ha1
    refine J_cl fun x3 σ2 hσ2 => ?_
    refine q_J.step (fun g => j_nul_f rfl (j_iconst (0 : Int32) rfl k32_0 (j_iload_n rfl rfl (j_iconst (1 : Int32) rfl k32_1 (j_s1 [.int (0 : Int32), .int v1, .int (1 : Int32)] [] rfl rfl rfl rfl rfl (t_Rs_isFrom (by omega) hσ2) (g)))))) ?_
    refine J_ite (fun h4 => ?_) (fun h4 => ?_)
    · exact J_some (fun h => j_if_f rfl (cc_ne_f h4) (j_iconst (-1 : Int32) rfl k32_m1 (j_iret rfl rfl h)))
    refine q_J.step (fun g => j_if_t rfl (cc_ne_t h4) (j_iload_n rfl rfl (g))) ?_
    refine J_ite (fun h5 => ?_) (fun h5 => ?_)
    · refine J_bind fun x6 hx6 => ?_
      exact J_some (fun h => j_if_f rfl (cc_ne_f h5) (j_aload_n rfl rfl (j_gfl rfl hx6 (j_goto rfl (j_l2i rfl (j_iret rfl rfl h))))))
    refine J_bind fun x7 hx7 => ?_
    exact J_some (fun h => j_if_t rfl (cc_ne_t h5) (j_aload_n rfl rfl (j_gfl rfl hx7 (j_l2i rfl (j_iret rfl rfl h)))))
theorem t_Rs_partOf {fo : Option Nat} {d : Nat} (hd : 2 ≤ d) {v0 : Option Nat} {v1 : Int32} {σ σ1 : q_H} {r : Int32} (h : f_Rs_partOf v0 v1 σ = some (r, σ1)) : q_Rel (q_rf fo) q_Ms d 121 [q_rf v0, .int v1] σ (.inl (some (.int r))) σ1 := by
  obtain ⟨d, rfl⟩ : ∃ d1, d = d1 + 1 := ⟨d - 1, by omega⟩
  cases v0 <;> exact q_Rel.of rfl rfl (b_Rs_partOf hd _ _ σ _ _ h ⟨rfl, rfl⟩)

set_option maxRecDepth 100000 in
theorem b_Rs_isTable {fo : Option Nat} {d : Nat} (hd : 2 ≤ d + 1) {o : q_O} {σ' : q_H} (v0 : Int32) (σ : q_H) : q_J (fun (r : Int32) (σ1 : q_H) => o = .inl (some (.int r)) ∧ σ' = σ1) (f_Rs_isTable v0 σ) (q_G (q_rf fo) d m_Rs_isTable o σ' 0 [some (.int v0)] [] σ) := by
  unfold f_Rs_isTable
  refine J_cl fun x2 σ1 hσ1 => ?_
  refine q_J.step (fun g => j_iconst (0 : Int32) rfl k32_0 (j_iload_n rfl rfl (j_iconst (3 : Int32) rfl k32_3 (j_s1 [.int (0 : Int32), .int v0, .int (3 : Int32)] [] rfl rfl rfl rfl rfl (t_Rs_isFrom (by omega) hσ1) (g))))) ?_
  refine J_ite (fun _ => J_none) (fun hz => ?_)
  replace hz := Decidable.not_not.mp hz
  exact J_some (fun h => j_iret rfl (q_zr hz) h)
theorem t_Rs_isTable {fo : Option Nat} {d : Nat} (hd : 2 ≤ d) {v0 : Int32} {σ σ1 : q_H} {r : Int32} (h : f_Rs_isTable v0 σ = some (r, σ1)) : q_Rel (q_rf fo) q_Ms d 133 [.int v0] σ (.inl (some (.int r))) σ1 := by
  obtain ⟨d, rfl⟩ : ∃ d1, d = d1 + 1 := ⟨d - 1, by omega⟩
  exact q_Rel.of rfl rfl (b_Rs_isTable hd _ σ _ _ h ⟨rfl, rfl⟩)

set_option maxRecDepth 100000 in
theorem b_Rs_gap {fo : Option Nat} {d : Nat} (hd : 2 ≤ d + 1) {o : q_O} {σ' : q_H} (v0 : Nat) (v1 : Int32) (σ : q_H) : q_J (fun (r : Int32) (σ1 : q_H) => o = .inl (some (.int r)) ∧ σ' = σ1) (f_Rs_gap v0 v1 σ) (q_G (q_rf fo) d m_Rs_gap o σ' 0 [some (.ref v0), some (.int v1)] [] σ) := by
  unfold f_Rs_gap
  refine J_cl fun x2 σ1 hσ1 => ?_
  refine q_J.step (fun g => j_bipush (-30 : Int32) rfl kb_m30 (j_iload_n rfl rfl (j_bipush (30 : Int32) rfl kb_30 (j_s1 [.int (-30 : Int32), .int v1, .int (30 : Int32)] [] rfl rfl rfl rfl rfl (t_Rs_isFrom (by omega) hσ1) (g))))) ?_
  refine J_ite (fun h3 => ?_) (fun h3 => ?_)
  · exact J_some (fun h => j_if_t rfl (cc_eq_t h3) (j_iconst (-1 : Int32) rfl k32_m1 (j_iret rfl rfl h)))
  refine J_bind fun x4 hx4 => ?_
  refine J_bind fun w5 hw5 => ?_
  refine J_cl fun x7 σ6 hσ6 => ?_
  refine q_J.step (fun g => j_if_f rfl (cc_eq_f h3) (j_aload_n rfl rfl (j_gfr rfl hx4 (j_iload_n rfl rfl (j_v1 [.ref x4, .int v1] [] rfl rfl rfl rfl rfl rfl hw5 (Or.inl rfl) (t_Li_addGap (by omega) hσ6) (g)))))) ?_
  refine J_ite (fun h8 => ?_) (fun h8 => ?_)
  · exact J_some (fun h => j_if_t rfl (cc_eq_t h8) (j_iconst (-1 : Int32) rfl k32_m1 (j_iret rfl rfl h)))
  refine J_bind fun x9 hx9 => ?_
  refine J_bind fun x10 hx10 => ?_
  exact J_some (fun h => j_if_f rfl (cc_eq_f h8) (j_aload_n rfl rfl (j_gfr rfl hx9 (j_gfi rfl hx10 (j_goto rfl (j_iret rfl rfl h))))))
theorem t_Rs_gap {fo : Option Nat} {d : Nat} (hd : 2 ≤ d) {v0 : Nat} {v1 : Int32} {σ σ1 : q_H} {r : Int32} (h : f_Rs_gap v0 v1 σ = some (r, σ1)) : q_Rel (q_rf fo) q_Ms d 139 [.ref v0, .int v1] σ (.inl (some (.int r))) σ1 := by
  obtain ⟨d, rfl⟩ : ∃ d1, d = d1 + 1 := ⟨d - 1, by omega⟩
  exact q_Rel.of rfl rfl (b_Rs_gap hd _ _ σ _ _ h ⟨rfl, rfl⟩)

set_option maxRecDepth 100000 in
theorem b_Rs_mark {fo : Option Nat} {d : Nat} (hd : 2 ≤ d + 1) {o : q_O} {σ' : q_H} (v0 : Nat) (v1 : Int32) (v2 : Int32) (σ : q_H) : q_J (fun (r : Int32) (σ1 : q_H) => o = .inl (some (.int r)) ∧ σ' = σ1) (f_Rs_mark v0 v1 v2 σ) (q_G (q_rf fo) d m_Rs_mark o σ' 0 [some (.ref v0), some (.int v1), some (.int v2)] [] σ) := by
  unfold f_Rs_mark
  refine J_cl fun x2 σ1 hσ1 => ?_
  refine q_J.step (fun g => j_iconst (0 : Int32) rfl k32_0 (j_iload_n rfl rfl (j_iconst (3 : Int32) rfl k32_3 (j_s1 [.int (0 : Int32), .int v1, .int (3 : Int32)] [] rfl rfl rfl rfl rfl (t_Rs_isFrom (by omega) hσ1) (g))))) ?_
  refine J_ite (fun h3 => ?_) (fun h3 => ?_)
  · exact J_some (fun h => j_if_t rfl (cc_eq_t h3) (j_iconst (0 : Int32) rfl k32_0 (j_iret rfl (q_zr (Or.inl rfl)) h)))
  refine q_J.step (fun g => j_if_f rfl (cc_eq_f h3) (j_iload_n rfl rfl (g))) ?_
  refine J_ite (fun h4 => ?_) (fun h4 => ?_)
  · refine q_J.step (fun g => j_if_t rfl (cc_eq_t h4) (j_iload_n rfl rfl (g))) ?_
    refine J_ite (fun h5 => ?_) (fun h5 => ?_)
    · refine J_bind fun x6 hx6 => ?_
      refine J_bind fun x7 hx7 => ?_
      refine J_bind fun x8 hx8 => ?_
      refine J_bind fun w9 hw9 => ?_
      refine J_cl fun _ σ10 hσ10 => ?_
      refine J_bind fun x12 hx12 => ?_
      refine J_bind fun σ13 hσ13 => ?_
      exact J_some (fun h => j_if_t rfl (cc_eq_t h5) (j_aload_n rfl rfl (j_gfr rfl hx6 (j_iload_n rfl rfl (j_aal rfl rfl hx7 (j_aload_n rfl rfl (j_gfr rfl hx8 (j_v0 [.ref x7, .ref x8] [] rfl rfl rfl rfl rfl rfl hw9 (Or.inl rfl) (t_Sf_copyFrom (by omega) hσ10) (j_aload_n rfl rfl (j_gfr rfl hx12 (j_iload_n rfl rfl (j_iconst (1 : Int32) rfl k32_1 (j_bas rfl (by decide) hσ13 (j_iconst (1 : Int32) rfl k32_1 (j_iret rfl (q_zr (Or.inr rfl)) h)))))))))))))))
    refine J_bind fun x14 hx14 => ?_
    refine J_bind fun x15 hx15 => ?_
    refine J_bind fun x16 hx16 => ?_
    refine J_bind fun w17 hw17 => ?_
    refine J_cl fun _ σ18 hσ18 => ?_
    refine J_bind fun x20 hx20 => ?_
    refine J_bind fun σ21 hσ21 => ?_
    exact J_some (fun h => j_if_f rfl (cc_eq_f h5) (j_aload_n rfl rfl (j_gfr rfl hx14 (j_aload_n rfl rfl (j_gfr rfl hx15 (j_iload_n rfl rfl (j_aal rfl rfl hx16 (j_v0 [.ref x14, .ref x16] [] rfl rfl rfl rfl rfl rfl hw17 (Or.inl rfl) (t_Sf_copyFrom (by omega) hσ18) (j_aload_n rfl rfl (j_gfr rfl hx20 (j_iconst (1 : Int32) rfl k32_1 (j_putf rfl rfl (by decide) rfl hσ21 (j_goto rfl (j_iconst (1 : Int32) rfl k32_1 (j_iret rfl (q_zr (Or.inr rfl)) h)))))))))))))))
  refine J_bind fun x22 hx22 => ?_
  refine J_bind fun x23 hx23 => ?_
  refine q_J.step (fun g => j_if_f rfl (cc_eq_f h4) (j_aload_n rfl rfl (j_gfr rfl hx22 (j_iload_n rfl rfl (j_bal rfl rfl hx23 (g)))))) ?_
  refine J_ite (fun h24 => ?_) (fun h24 => ?_)
  · exact J_some (fun h => j_if_f rfl (cc_ne_f h24) (j_iconst (0 : Int32) rfl k32_0 (j_iret rfl (q_zr (Or.inl rfl)) h)))
  refine q_J.step (fun g => j_if_t rfl (cc_ne_t h24) (j_iload_n rfl rfl (g))) ?_
  refine J_ite (fun h25 => ?_) (fun h25 => ?_)
  · refine J_bind fun x26 hx26 => ?_
    refine J_bind fun x27 hx27 => ?_
    refine J_bind fun x28 hx28 => ?_
    refine J_bind fun w29 hw29 => ?_
    refine J_cl fun _ σ30 hσ30 => ?_
    refine J_bind fun x32 hx32 => ?_
    refine J_bind fun σ33 hσ33 => ?_
    exact J_some (fun h => j_if_t rfl (cc_eq_t h25) (j_aload_n rfl rfl (j_gfr rfl hx26 (j_iload_n rfl rfl (j_aal rfl rfl hx27 (j_aload_n rfl rfl (j_gfr rfl hx28 (j_v0 [.ref x27, .ref x28] [] rfl rfl rfl rfl rfl rfl hw29 (Or.inl rfl) (t_Sf_copyFrom (by omega) hσ30) (j_aload_n rfl rfl (j_gfr rfl hx32 (j_iload_n rfl rfl (j_iconst (1 : Int32) rfl k32_1 (j_bas rfl (by decide) hσ33 (j_iconst (1 : Int32) rfl k32_1 (j_iret rfl (q_zr (Or.inr rfl)) h)))))))))))))))
  refine J_bind fun x34 hx34 => ?_
  refine J_bind fun x35 hx35 => ?_
  refine J_bind fun x36 hx36 => ?_
  refine J_bind fun w37 hw37 => ?_
  refine J_cl fun _ σ38 hσ38 => ?_
  refine J_bind fun x40 hx40 => ?_
  refine J_bind fun σ41 hσ41 => ?_
  exact J_some (fun h => j_if_f rfl (cc_eq_f h25) (j_aload_n rfl rfl (j_gfr rfl hx34 (j_aload_n rfl rfl (j_gfr rfl hx35 (j_iload_n rfl rfl (j_aal rfl rfl hx36 (j_v0 [.ref x34, .ref x36] [] rfl rfl rfl rfl rfl rfl hw37 (Or.inl rfl) (t_Sf_copyFrom (by omega) hσ38) (j_aload_n rfl rfl (j_gfr rfl hx40 (j_iconst (1 : Int32) rfl k32_1 (j_putf rfl rfl (by decide) rfl hσ41 (j_goto rfl (j_iconst (1 : Int32) rfl k32_1 (j_iret rfl (q_zr (Or.inr rfl)) h)))))))))))))))
theorem t_Rs_mark {fo : Option Nat} {d : Nat} (hd : 2 ≤ d) {v0 : Nat} {v1 : Int32} {v2 : Int32} {σ σ1 : q_H} {r : Int32} (h : f_Rs_mark v0 v1 v2 σ = some (r, σ1)) : q_Rel (q_rf fo) q_Ms d 161 [.ref v0, .int v1, .int v2] σ (.inl (some (.int r))) σ1 := by
  obtain ⟨d, rfl⟩ : ∃ d1, d = d1 + 1 := ⟨d - 1, by omega⟩
  exact q_Rel.of rfl rfl (b_Rs_mark hd _ _ _ σ _ _ h ⟨rfl, rfl⟩)

set_option maxRecDepth 100000 in
theorem b_Ra_of {fo : Option Nat} {d : Nat} (hd : 3 ≤ d + 1) {o : q_O} {σ' : q_H} (v0 : Int64) (v2 : Int64) (σ : q_H) : q_J (fun (r : Option Nat) (σ1 : q_H) => o = .inl (some (q_rf r)) ∧ σ' = σ1) (f_Ra_of v0 v2 σ) (q_G (q_rf fo) d m_Ra_of o σ' 0 [some (.long v0), none, some (.long v2), none] [] σ) := by
  unfold f_Ra_of
  refine q_J.step (fun g => j_lload_n rfl rfl (j_lconst (0 : Int64) rfl kl_0 (j_lcmp rfl (g)))) ?_
  refine J_ite (fun h1 => ?_) (fun h1 => ?_)
  · refine J_ma fun σ2 a3 hσ2 ha3 => ?_
    refine J_cl fun _ σ4 hσ4 => ?_
    exact J_some (fun h => j_if_t rfl (lc_gt_t h1) (j_newk2 [.long 0, .long 0] rfl rfl rfl hσ2 ha3 (j_dup rfl rfl (j_lload_n rfl rfl (j_lload_n rfl rfl (j_i0 [.ref a3, .long v0, .long v2] [.ref a3] rfl rfl rfl rfl rfl rfl (t_Ra_init (by omega) hσ4) (j_aret (x := some a3) rfl (Or.inl ⟨_, rfl⟩) h)))))))
  exact J_some (fun h => j_if_f rfl (lc_gt_f h1) (j_null rfl (j_goto rfl (j_aret (x := none) rfl (Or.inl ⟨_, rfl⟩) h))))
theorem t_Ra_of {fo : Option Nat} {d : Nat} (hd : 3 ≤ d) {v0 : Int64} {v2 : Int64} {σ σ1 : q_H} {r : Option Nat} (h : f_Ra_of v0 v2 σ = some (r, σ1)) : q_Rel (q_rf fo) q_Ms d 23 [.long v0, .long v2] σ (.inl (some (q_rf r))) σ1 := by
  obtain ⟨d, rfl⟩ : ∃ d1, d = d1 + 1 := ⟨d - 1, by omega⟩
  exact q_Rel.of rfl rfl (b_Ra_of hd _ _ σ _ _ h ⟨rfl, rfl⟩)

set_option maxRecDepth 100000 in
theorem b_Ra_difference {fo : Option Nat} {d : Nat} (hd : 3 ≤ d + 1) {o : q_O} {σ' : q_H} (v0 : Int64) (v2 : Int64) (v4 : Int64) (v6 : Int64) (σ : q_H) : q_J (fun (r : Option Nat) (σ1 : q_H) => o = .inl (some (q_rf r)) ∧ σ' = σ1) (f_Ra_difference v0 v2 v4 v6 σ) (q_G (q_rf fo) d m_Ra_difference o σ' 0 [some (.long v0), none, some (.long v2), none, some (.long v4), none, some (.long v6), none] [] σ) := by
  unfold f_Ra_difference
  refine q_J.step (fun g => j_lload_n rfl rfl (j_lconst (0 : Int64) rfl kl_0 (j_lcmp rfl (g)))) ?_
  refine J_ite (fun h1 => ?_) (fun h1 => ?_)
  · refine q_J.step (fun g => j_if_f rfl (lc_le_f h1) (j_lload rfl rfl (j_lconst (0 : Int64) rfl kl_0 (j_lcmp rfl (g))))) ?_
    refine J_ite (fun h2 => ?_) (fun h2 => ?_)
    · refine J_ma fun σ3 a4 hσ3 ha4 => ?_
      refine J_cl fun _ σ5 hσ5 => ?_
      exact J_some (fun h => j_if_t rfl (lc_gt_t h2) (j_newk2 [.long 0, .long 0] rfl rfl rfl hσ3 ha4 (j_dup rfl rfl (j_lload_n rfl rfl (j_lload rfl rfl (j_lmul rfl (j_lload rfl rfl (j_lload_n rfl rfl (j_lmul rfl (j_lsub rfl (j_lload_n rfl rfl (j_lload rfl rfl (j_lmul rfl (j_i0 [.ref a4, .long ((v0 * v6) - (v4 * v2)), .long (v2 * v6)] [.ref a4] rfl rfl rfl rfl rfl rfl (t_Ra_init (by omega) hσ5) (j_aret (x := some a4) rfl (Or.inl ⟨_, rfl⟩) h)))))))))))))))
    exact J_some (fun h => j_if_f rfl (lc_gt_f h2) (j_null rfl (j_aret (x := none) rfl (Or.inl ⟨_, rfl⟩) h)))
  exact J_some (fun h => j_if_t rfl (lc_le_t h1) (j_null rfl (j_aret (x := none) rfl (Or.inl ⟨_, rfl⟩) h)))
theorem t_Ra_difference {fo : Option Nat} {d : Nat} (hd : 3 ≤ d) {v0 : Int64} {v2 : Int64} {v4 : Int64} {v6 : Int64} {σ σ1 : q_H} {r : Option Nat} (h : f_Ra_difference v0 v2 v4 v6 σ = some (r, σ1)) : q_Rel (q_rf fo) q_Ms d 26 [.long v0, .long v2, .long v4, .long v6] σ (.inl (some (q_rf r))) σ1 := by
  obtain ⟨d, rfl⟩ : ∃ d1, d = d1 + 1 := ⟨d - 1, by omega⟩
  exact q_Rel.of rfl rfl (b_Ra_difference hd _ _ _ _ σ _ _ h ⟨rfl, rfl⟩)

set_option maxRecDepth 100000 in
theorem l_Li_misfit_L6 {fo : Option Nat} {d : Nat} (hd : 3 ≤ d + 1) {o : q_O} {σ' : q_H} {E : (Int64) → q_H → Prop} (v0 : Nat) (v1 : Int32) (v2 : Int32) (v3 : Nat) (hX : ∀ (t : Int64) σ1, E (t) σ1 → q_G (q_rf fo) d m_Li_misfit o σ' 29 [some (.ref v0), some (.int v1), some (.int v2), some (.ref v3), some (.long t), none, none, none, none, none, none] [] σ1)  : ∀ (n : Nat) (v4 : Int64) (v6 : Int32) (σ : q_H), q_J E (f_Li_misfit_L6 v0 v1 v2 v3 n v4 v6 σ) (q_G (q_rf fo) d m_Li_misfit o σ' 6 [some (.ref v0), some (.int v1), some (.int v2), some (.ref v3), some (.long v4), none, some (.int v6), none, none, none, none] [] σ)
  | 0, v4, v6, σ => J_none
  | n + 1, v4, v6, σ => by
    unfold f_Li_misfit_L6
    refine q_J.step (fun g => j_iload rfl rfl (j_bipush (17 : Int32) rfl kb_17 (g))) ?_
    refine J_ite (fun h1 => ?_) (fun h1 => ?_)
    · refine J_bind fun x2 hx2 => ?_
      exact q_J.step (fun g => j_icmp_f rfl (cc_ge_f h1) (j_lload rfl rfl (j_aload_n rfl rfl (j_iload rfl rfl (j_ial rfl hx2 (j_i2l rfl (j_ladd rfl (j_lstore [some (.ref v0), some (.int v1), some (.int v2), some (.ref v3), some (.long (v4 + x2.toInt64)), none, some (.int v6), none, none, none, none] rfl rfl (Or.inr rfl) rfl (j_iinc [some (.ref v0), some (.int v1), some (.int v2), some (.ref v3), some (.long (v4 + x2.toInt64)), none, some (.int (v6 + (1 : Int32))), none, none, none, none] (v6 + (1 : Int32)) rfl rfl (by rw [k32_1]) (Or.inr True.intro) rfl (j_goto rfl (g))))))))))) (l_Li_misfit_L6 hd v0 v1 v2 v3 hX n (v4 + x2.toInt64) (v6 + (1 : Int32)) σ)
    exact J_some (fun h => j_icmp_t rfl (cc_ge_t h1) (j_weak (l := [some (.ref v0), some (.int v1), some (.int v2), some (.ref v3), some (.long v4), none, none, none, none, none, none]) (And.intro (Or.inr rfl) (And.intro (Or.inr rfl) (And.intro (Or.inr rfl) (And.intro (Or.inr rfl) (And.intro (Or.inr rfl) (And.intro (Or.inr rfl) (And.intro (Or.inl rfl) (And.intro (Or.inr rfl) (And.intro (Or.inr rfl) (And.intro (Or.inr rfl) (And.intro (Or.inr rfl) True.intro))))))))))) (hX _ _ h)))

set_option maxRecDepth 100000 in
theorem l_Li_misfit_L45 {fo : Option Nat} {d : Nat} (hd : 3 ≤ d + 1) {o : q_O} {σ' : q_H} {E : (Int64) → q_H → Prop} (v0 : Nat) (v1 : Int32) (v3 : Nat) (v4 : Int64) (v6 : Int64) (hX : ∀ (t : Int64) σ1, E (t) σ1 → q_G (q_rf fo) d m_Li_misfit o σ' 86 [none, none, none, none, none, none, none, none, some (.long t), none, none] [] σ1)  : ∀ (n : Nat) (v8 : Int64) (v10 : Int32) (σ : q_H), q_J E (f_Li_misfit_L45 v0 v1 v3 v4 v6 n v8 v10 σ) (q_G (q_rf fo) d m_Li_misfit o σ' 45 [some (.ref v0), some (.int v1), none, some (.ref v3), some (.long v4), none, some (.long v6), none, some (.long v8), none, some (.int v10)] [] σ)
  | 0, v8, v10, σ => J_none
  | n + 1, v8, v10, σ => by
    unfold f_Li_misfit_L45
    refine q_J.step (fun g => j_iload rfl rfl (j_bipush (17 : Int32) rfl kb_17 (g))) ?_
    refine J_ite (fun h1 => ?_) (fun h1 => ?_)
    · refine J_bind fun x2 hx2 => ?_
      refine J_bind fun w3 hw3 => ?_
      refine J_cl fun x5 σ4 hσ4 => ?_
      exact q_J.step (fun g => j_icmp_f rfl (cc_ge_f h1) (j_lload rfl rfl (j_aload_n rfl rfl (j_iload rfl rfl (j_ial rfl hx2 (j_i2l rfl (j_lload rfl rfl (j_lmul rfl (j_aload_n rfl rfl (j_iload_n rfl rfl (j_iload rfl rfl (j_v1 [.ref v0, .int v1, .int v10] [.long (x2.toInt64 * v6), .long v8] rfl rfl rfl rfl rfl rfl hw3 (Or.inl rfl) (t_Li_living (by omega) hσ4) (j_i2l rfl (j_lload rfl rfl (j_lmul rfl (j_lsub rfl (j_labs rfl rfl (j_ladd rfl (j_lstore [some (.ref v0), some (.int v1), none, some (.ref v3), some (.long v4), none, some (.long v6), none, some (.long (v8 + (if 0 < ((x2.toInt64 * v6) - (x5.toInt64 * v4)) then ((x2.toInt64 * v6) - (x5.toInt64 * v4)) else -((x2.toInt64 * v6) - (x5.toInt64 * v4))))), none, some (.int v10)] rfl rfl (Or.inr True.intro) rfl (j_iinc [some (.ref v0), some (.int v1), none, some (.ref v3), some (.long v4), none, some (.long v6), none, some (.long (v8 + (if 0 < ((x2.toInt64 * v6) - (x5.toInt64 * v4)) then ((x2.toInt64 * v6) - (x5.toInt64 * v4)) else -((x2.toInt64 * v6) - (x5.toInt64 * v4))))), none, some (.int (v10 + (1 : Int32)))] (v10 + (1 : Int32)) rfl rfl (by rw [k32_1]) (Or.inr True.intro) rfl (j_goto rfl (g)))))))))))))))))))))) (l_Li_misfit_L45 hd v0 v1 v3 v4 v6 hX n (v8 + (if 0 < ((x2.toInt64 * v6) - (x5.toInt64 * v4)) then ((x2.toInt64 * v6) - (x5.toInt64 * v4)) else -((x2.toInt64 * v6) - (x5.toInt64 * v4)))) (v10 + (1 : Int32)) σ4)
    exact J_some (fun h => j_icmp_t rfl (cc_ge_t h1) (j_weak (l := [none, none, none, none, none, none, none, none, some (.long v8), none, none]) (And.intro (Or.inl rfl) (And.intro (Or.inl rfl) (And.intro (Or.inr rfl) (And.intro (Or.inl rfl) (And.intro (Or.inl rfl) (And.intro (Or.inr rfl) (And.intro (Or.inl rfl) (And.intro (Or.inr rfl) (And.intro (Or.inr rfl) (And.intro (Or.inr rfl) (And.intro (Or.inl rfl) True.intro))))))))))) (hX _ _ h)))

set_option maxRecDepth 100000 in
theorem b_Li_misfit {fo : Option Nat} {d : Nat} (hd : 3 ≤ d + 1) {o : q_O} {σ' : q_H} (v0 : Nat) (v1 : Int32) (v2 : Int32) (v3 : Nat) (σ : q_H) : q_J (fun (r : Int64) (σ1 : q_H) => o = .inl (some (.long r)) ∧ σ' = σ1) (f_Li_misfit v0 v1 v2 v3 σ) (q_G (q_rf fo) d m_Li_misfit o σ' 0 [some (.ref v0), some (.int v1), some (.int v2), some (.ref v3), none, none, none, none, none, none, none] [] σ) := by
  unfold f_Li_misfit
  refine J_sq (fun (t1 : Int64) (σ2 : q_H) => q_G (q_rf fo) d m_Li_misfit o σ' 29 [some (.ref v0), some (.int v1), some (.int v2), some (.ref v3), some (.long t1), none, none, none, none, none, none] [] σ2) (q_J.step (fun g => j_lconst (0 : Int64) rfl kl_0 (j_lstore [some (.ref v0), some (.int v1), some (.int v2), some (.ref v3), some (.long (0 : Int64)), none, none, none, none, none, none] rfl rfl (Or.inr rfl) rfl (j_iload_n rfl rfl (j_istore [some (.ref v0), some (.int v1), some (.int v2), some (.ref v3), some (.long (0 : Int64)), none, some (.int v2), none, none, none, none] rfl rfl (Or.inr True.intro) rfl (g))))) (l_Li_misfit_L6 hd v0 v1 v2 v3 (fun _ _ h => h) q_FU (0 : Int64) v2 σ)) (fun t1 σ2 => ?_)
  refine J_bind fun w3 hw3 => ?_
  refine J_cl fun x5 σ4 hσ4 => ?_
  refine J_sq (fun (t6 : Int64) (σ7 : q_H) => q_G (q_rf fo) d m_Li_misfit o σ' 86 [none, none, none, none, none, none, none, none, some (.long t6), none, none] [] σ7) (q_J.step (fun g => j_aload_n rfl rfl (j_iload_n rfl rfl (j_iload_n rfl rfl (j_bipush (17 : Int32) rfl kb_17 (j_v1 [.ref v0, .int v1, .int v2, .int (17 : Int32)] [] rfl rfl rfl rfl rfl rfl hw3 (Or.inl rfl) (t_Li_livingBetween (by omega) hσ4) (j_lstore [some (.ref v0), some (.int v1), some (.int v2), some (.ref v3), some (.long t1), none, some (.long x5), none, none, none, none] rfl rfl (Or.inr True.intro) rfl (j_lconst (0 : Int64) rfl kl_0 (j_lstore [some (.ref v0), some (.int v1), some (.int v2), some (.ref v3), some (.long t1), none, some (.long x5), none, some (.long (0 : Int64)), none, none] rfl rfl (Or.inr True.intro) rfl (j_iload_n rfl rfl (j_istore [some (.ref v0), some (.int v1), some (.int v2), some (.ref v3), some (.long t1), none, some (.long x5), none, some (.long (0 : Int64)), none, some (.int v2)] rfl rfl (Or.inr True.intro) rfl (j_weak (l := [some (.ref v0), some (.int v1), none, some (.ref v3), some (.long t1), none, some (.long x5), none, some (.long (0 : Int64)), none, some (.int v2)]) (And.intro (Or.inr rfl) (And.intro (Or.inr rfl) (And.intro (Or.inl rfl) (And.intro (Or.inr rfl) (And.intro (Or.inr rfl) (And.intro (Or.inr rfl) (And.intro (Or.inr rfl) (And.intro (Or.inr rfl) (And.intro (Or.inr rfl) (And.intro (Or.inr rfl) (And.intro (Or.inr rfl) True.intro))))))))))) (g)))))))))))) (l_Li_misfit_L45 hd v0 v1 v3 t1 x5 (fun _ _ h => h) q_FU (0 : Int64) v2 σ4)) (fun t6 σ7 => ?_)
  exact J_some (fun h => j_lload rfl rfl (j_lret rfl rfl h))
theorem t_Li_misfit {fo : Option Nat} {d : Nat} (hd : 3 ≤ d) {v0 : Nat} {v1 : Int32} {v2 : Int32} {v3 : Nat} {σ σ1 : q_H} {r : Int64} (h : f_Li_misfit v0 v1 v2 v3 σ = some (r, σ1)) : q_Rel (q_rf fo) q_Ms d 36 [.ref v0, .int v1, .int v2, .ref v3] σ (.inl (some (.long r))) σ1 := by
  obtain ⟨d, rfl⟩ : ∃ d1, d = d1 + 1 := ⟨d - 1, by omega⟩
  exact q_Rel.of rfl rfl (b_Li_misfit hd _ _ _ _ σ _ _ h ⟨rfl, rfl⟩)

set_option maxRecDepth 100000 in
theorem l_Wo_make_L19 {fo : Option Nat} {d : Nat} (hd : 3 ≤ d + 1) {o : q_O} {σ' : q_H} {E : (Unit) → q_H → Prop} (v0 : Nat) (v2 : Int32) (v3 : Nat) (v4 : Int32) (v5 : Int32) (v6 : Int32) (hX : ∀ (t : Unit) σ1, E (t) σ1 → q_G (q_rf fo) d m_Wo_make o σ' 46 [none, none, none, none, none, none, none, none] [] σ1)  : ∀ (n : Nat) (v7 : Int32) (σ : q_H), q_J E (f_Wo_make_L19 v0 v2 v3 v4 v5 v6 n v7 σ) (q_G (q_rf fo) d m_Wo_make o σ' 19 [some (.ref v0), none, some (.int v2), some (.ref v3), some (.int v4), some (.int v5), some (.int v6), some (.int v7)] [] σ)
  | 0, v7, σ => J_none
  | n + 1, v7, σ => by
    unfold f_Wo_make_L19
    refine q_J.step (fun g => j_iload rfl rfl (j_iload_n rfl rfl (g))) ?_
    refine J_ite (fun h1 => ?_) (fun h1 => ?_)
    · refine J_bind fun w2 hw2 => ?_
      refine J_cl fun _ σ3 hσ3 => ?_
      refine J_bind fun w5 hw5 => ?_
      refine J_cl fun _ σ6 hσ6 => ?_
      exact q_J.step (fun g => j_icmp_f rfl (cc_ge_f h1) (j_aload_n rfl rfl (j_aload_n rfl rfl (j_iload rfl rfl (j_v0 [.ref v0, .ref v3, .int v4] [] rfl rfl rfl rfl rfl rfl hw2 (Or.inl rfl) (t_Wo_bear (by omega) hσ3) (j_aload_n rfl rfl (j_iload rfl rfl (j_iload rfl rfl (j_v0 [.ref v0, .int v5, .int v6] [] rfl rfl rfl rfl rfl rfl hw5 (Or.inl rfl) (t_Wo_marry (by omega) hσ6) (j_iinc [some (.ref v0), none, some (.int v2), some (.ref v3), some (.int v4), some (.int v5), some (.int v6), some (.int (v7 + (1 : Int32)))] (v7 + (1 : Int32)) rfl rfl (by rw [k32_1]) (Or.inr rfl) rfl (j_goto rfl (g)))))))))))) (l_Wo_make_L19 hd v0 v2 v3 v4 v5 v6 hX n (v7 + (1 : Int32)) σ6)
    exact J_some (fun h => j_icmp_t rfl (cc_ge_t h1) (j_weak (l := [none, none, none, none, none, none, none, none]) (And.intro (Or.inl rfl) (And.intro (Or.inr rfl) (And.intro (Or.inl rfl) (And.intro (Or.inl rfl) (And.intro (Or.inl rfl) (And.intro (Or.inl rfl) (And.intro (Or.inl rfl) (And.intro (Or.inl rfl) True.intro)))))))) (hX _ _ h)))

set_option maxRecDepth 100000 in
theorem b_Wo_make {fo : Option Nat} {d : Nat} (hd : 3 ≤ d + 1) {o : q_O} {σ' : q_H} (v0 : Nat) (v1 : Int32) (v2 : Int32) (v3 : Nat) (v4 : Int32) (v5 : Int32) (v6 : Int32) (σ : q_H) : q_J (fun (r : Unit) (σ1 : q_H) => o = .inl none ∧ σ' = σ1) (f_Wo_make v0 v1 v2 v3 v4 v5 v6 σ) (q_G (q_rf fo) d m_Wo_make o σ' 0 [some (.ref v0), some (.int v1), some (.int v2), some (.ref v3), some (.int v4), some (.int v5), some (.int v6), none] [] σ) := by
  unfold f_Wo_make
  refine J_bind fun σ1 hσ1 => ?_
  refine J_bind fun σ2 hσ2 => ?_
  refine J_bind fun σ3 hσ3 => ?_
  refine J_sq (fun (t4 : Unit) (σ5 : q_H) => q_G (q_rf fo) d m_Wo_make o σ' 46 [none, none, none, none, none, none, none, none] [] σ5) (q_J.step (fun g => j_aload_n rfl rfl (j_iload_n rfl rfl (j_i2l rfl (j_putf rfl rfl rfl rfl hσ1 (j_aload_n rfl rfl (j_iconst (0 : Int32) rfl k32_0 (j_putf rfl rfl rfl rfl hσ2 (j_aload_n rfl rfl (j_iconst (0 : Int32) rfl k32_0 (j_putf rfl rfl rfl rfl hσ3 (j_iconst (0 : Int32) rfl k32_0 (j_istore [some (.ref v0), some (.int v1), some (.int v2), some (.ref v3), some (.int v4), some (.int v5), some (.int v6), some (.int (0 : Int32))] rfl rfl (Or.inr rfl) rfl (j_weak (l := [some (.ref v0), none, some (.int v2), some (.ref v3), some (.int v4), some (.int v5), some (.int v6), some (.int (0 : Int32))]) (And.intro (Or.inr rfl) (And.intro (Or.inl rfl) (And.intro (Or.inr rfl) (And.intro (Or.inr rfl) (And.intro (Or.inr rfl) (And.intro (Or.inr rfl) (And.intro (Or.inr rfl) (And.intro (Or.inr rfl) True.intro)))))))) (g)))))))))))))) (l_Wo_make_L19 hd v0 v2 v3 v4 v5 v6 (fun _ _ h => h) q_FU (0 : Int32) σ3)) (fun t4 σ5 => ?_)
  exact J_some (fun h => j_vret rfl rfl h)
theorem t_Wo_make {fo : Option Nat} {d : Nat} (hd : 3 ≤ d) {v0 : Nat} {v1 : Int32} {v2 : Int32} {v3 : Nat} {v4 : Int32} {v5 : Int32} {v6 : Int32} {σ σ1 : q_H} {r : Unit} (h : f_Wo_make v0 v1 v2 v3 v4 v5 v6 σ = some (r, σ1)) : q_Rel (q_rf fo) q_Ms d 42 [.ref v0, .int v1, .int v2, .ref v3, .int v4, .int v5, .int v6] σ (.inl none) σ1 := by
  obtain ⟨d, rfl⟩ : ∃ d1, d = d1 + 1 := ⟨d - 1, by omega⟩
  exact q_Rel.of rfl rfl (b_Wo_make hd _ _ _ _ _ _ _ σ _ _ h ⟨rfl, rfl⟩)

set_option maxRecDepth 100000 in
theorem b_Pa_adoptedOf {fo : Option Nat} {d : Nat} (hd : 3 ≤ d + 1) {o : q_O} {σ' : q_H} (v0 : Nat) (v1 : Int32) (v2 : Int32) (σ : q_H) : q_J (fun (r : Int32) (σ1 : q_H) => o = .inl (some (.int r)) ∧ σ' = σ1) (f_Pa_adoptedOf v0 v1 v2 σ) (q_G (q_rf fo) d m_Pa_adoptedOf o σ' 0 [some (.ref v0), some (.int v1), some (.int v2)] [] σ) := by
  unfold f_Pa_adoptedOf
  refine J_bind fun x1 hx1 => ?_
  refine J_bind fun x2 hx2 => ?_
  refine q_J.step (fun g => j_aload_n rfl rfl (j_gfr rfl hx1 (j_iload_n rfl rfl (j_ial rfl hx2 (g))))) ?_
  refine J_ite (fun h3 => ?_) (fun h3 => ?_)
  · refine J_bind fun x4 hx4 => ?_
    refine J_bind fun x5 hx5 => ?_
    refine J_bind fun x6 hx6 => ?_
    refine J_bind fun x7 hx7 => ?_
    refine q_J.step (fun g => j_if_t rfl (cc_eq_t h3) (j_aload_n rfl rfl (j_gfr rfl hx4 (j_iload_n rfl rfl (j_ial rfl hx5 (j_aload_n rfl rfl (j_gfr rfl hx6 (j_iload_n rfl rfl (j_ial rfl hx7 (j_ior rfl (j_iconst (2 : Int32) rfl k32_2 (j_iand rfl (g))))))))))))) ?_
    refine J_ite (fun h8 => ?_) (fun h8 => ?_)
    · refine J_bind fun w9 hw9 => ?_
      refine J_cl fun x11 σ10 hσ10 => ?_
      refine q_J.step (fun g => j_if_t rfl (cc_eq_t h8) (j_aload_n rfl rfl (j_iload_n rfl rfl (j_iload_n rfl rfl (j_iconst (0 : Int32) rfl k32_0 (j_v1 [.ref v0, .int v1, .int v2, .int (0 : Int32)] [] rfl rfl rfl rfl rfl rfl hw9 (Or.inl rfl) (t_Pa_fullOthers (by omega) hσ10) (g))))))) ?_
      refine J_ite (fun h12 => ?_) (fun h12 => ?_)
      · exact J_some (fun h => j_if_f rfl (cc_ne_f h12) (j_iconst (1 : Int32) rfl k32_1 (j_goto rfl (j_iret rfl rfl h))))
      exact J_some (fun h => j_if_t rfl (cc_ne_t h12) (j_iconst (0 : Int32) rfl k32_0 (j_iret rfl rfl h)))
    exact J_some (fun h => j_if_f rfl (cc_eq_f h8) (j_iconst (2 : Int32) rfl k32_2 (j_iret rfl rfl h)))
  refine J_bind fun x13 hx13 => ?_
  refine J_bind fun x14 hx14 => ?_
  refine q_J.step (fun g => j_if_f rfl (cc_eq_f h3) (j_aload_n rfl rfl (j_gfr rfl hx13 (j_iload_n rfl rfl (j_ial rfl hx14 (j_iconst (2 : Int32) rfl k32_2 (g))))))) ?_
  refine J_ite (fun h15 => ?_) (fun h15 => ?_)
  · refine J_bind fun x16 hx16 => ?_
    refine J_bind fun x17 hx17 => ?_
    refine J_bind fun x18 hx18 => ?_
    refine J_bind fun x19 hx19 => ?_
    refine q_J.step (fun g => j_icmp_t rfl (cc_eq_t h15) (j_aload_n rfl rfl (j_gfr rfl hx16 (j_iload_n rfl rfl (j_ial rfl hx17 (j_aload_n rfl rfl (j_gfr rfl hx18 (j_iload_n rfl rfl (j_ial rfl hx19 (j_ior rfl (j_iconst (2 : Int32) rfl k32_2 (j_iand rfl (g))))))))))))) ?_
    refine J_ite (fun h20 => ?_) (fun h20 => ?_)
    · refine J_bind fun w21 hw21 => ?_
      refine J_cl fun x23 σ22 hσ22 => ?_
      refine q_J.step (fun g => j_if_t rfl (cc_eq_t h20) (j_aload_n rfl rfl (j_iload_n rfl rfl (j_iload_n rfl rfl (j_iconst (0 : Int32) rfl k32_0 (j_v1 [.ref v0, .int v1, .int v2, .int (0 : Int32)] [] rfl rfl rfl rfl rfl rfl hw21 (Or.inl rfl) (t_Pa_fullOthers (by omega) hσ22) (g))))))) ?_
      refine J_ite (fun h24 => ?_) (fun h24 => ?_)
      · exact J_some (fun h => j_if_f rfl (cc_ne_f h24) (j_iconst (1 : Int32) rfl k32_1 (j_goto rfl (j_iret rfl rfl h))))
      exact J_some (fun h => j_if_t rfl (cc_ne_t h24) (j_iconst (0 : Int32) rfl k32_0 (j_iret rfl rfl h)))
    exact J_some (fun h => j_if_f rfl (cc_eq_f h20) (j_iconst (2 : Int32) rfl k32_2 (j_iret rfl rfl h)))
  exact J_some (fun h => j_icmp_f rfl (cc_eq_f h15) (j_iconst (-1 : Int32) rfl k32_m1 (j_iret rfl rfl h)))
theorem t_Pa_adoptedOf {fo : Option Nat} {d : Nat} (hd : 3 ≤ d) {v0 : Nat} {v1 : Int32} {v2 : Int32} {σ σ1 : q_H} {r : Int32} (h : f_Pa_adoptedOf v0 v1 v2 σ = some (r, σ1)) : q_Rel (q_rf fo) q_Ms d 68 [.ref v0, .int v1, .int v2] σ (.inl (some (.int r))) σ1 := by
  obtain ⟨d, rfl⟩ : ∃ d1, d = d1 + 1 := ⟨d - 1, by omega⟩
  exact q_Rel.of rfl rfl (b_Pa_adoptedOf hd _ _ _ σ _ _ h ⟨rfl, rfl⟩)

set_option maxRecDepth 100000 in
theorem b_Sr_init {fo : Option Nat} {d : Nat} (hd : 3 ≤ d + 1) {o : q_O} {σ' : q_H} (v0 : Nat) (v1 : Nat) (v2 : Nat) (σ : q_H) : q_J (fun (r : Unit) (σ1 : q_H) => o = .inl none ∧ σ' = σ1) (f_Sr_init v0 v1 v2 σ) (q_G (q_rf fo) d m_Sr_init o σ' 0 [some (.ref v0), some (.ref v1), some (.ref v2)] [] σ) := by
  unfold f_Sr_init
  refine J_ma fun σ1 a2 hσ1 ha2 => ?_
  refine J_cl fun _ σ3 hσ3 => ?_
  refine J_bind fun σ5 hσ5 => ?_
  refine J_bind fun σ6 hσ6 => ?_
  refine J_bind fun σ7 hσ7 => ?_
  exact J_some (fun h => j_aload_n rfl rfl (j_obj rfl rfl (j_aload_n rfl rfl (j_newk2 [.int 0, .null, .null, .null, .null, .null, .null, .null, .null, .null, .null, .null] rfl rfl rfl hσ1 ha2 (j_dup rfl rfl (j_i0 [.ref a2] [.ref a2, .ref v0] rfl rfl rfl rfl rfl rfl (t_Pa_init (by omega) hσ3) (j_putf rfl rfl rfl rfl hσ5 (j_aload_n rfl rfl (j_aload_n rfl rfl (j_putf rfl rfl rfl rfl hσ6 (j_aload_n rfl rfl (j_aload_n rfl rfl (j_putf rfl rfl rfl rfl hσ7 (j_vret rfl rfl h))))))))))))))
theorem t_Sr_init {fo : Option Nat} {d : Nat} (hd : 3 ≤ d) {v0 : Nat} {v1 : Nat} {v2 : Nat} {σ σ1 : q_H} {r : Unit} (h : f_Sr_init v0 v1 v2 σ = some (r, σ1)) : q_Rel (q_rf fo) q_Ms d 72 [.ref v0, .ref v1, .ref v2] σ (.inl none) σ1 := by
  obtain ⟨d, rfl⟩ : ∃ d1, d = d1 + 1 := ⟨d - 1, by omega⟩
  exact q_Rel.of rfl rfl (b_Sr_init hd _ _ _ σ _ _ h ⟨rfl, rfl⟩)

set_option maxRecDepth 100000 in
theorem b_Sf_pageWithin {fo : Option Nat} {d : Nat} (hd : 3 ≤ d + 1) {o : q_O} {σ' : q_H} (v0 : Nat) (v1 : Int32) (v2 : Int32) (v3 : Int32) (σ : q_H) : q_J (fun (r : Option Nat) (σ1 : q_H) => o = .inl (some (q_rf r)) ∧ σ' = σ1) (f_Sf_pageWithin v0 v1 v2 v3 σ) (q_G (q_rf fo) d m_Sf_pageWithin o σ' 0 [some (.ref v0), some (.int v1), some (.int v2), some (.int v3), none, none] [] σ) := by
  unfold f_Sf_pageWithin
  refine J_bind fun w1 hw1 => ?_
  refine J_cl fun x3 σ2 hσ2 => ?_
  refine q_J.step (fun g => j_aload_n rfl rfl (j_iload_n rfl rfl (j_v1 [.ref v0, .int v1] [] rfl rfl rfl rfl rfl rfl hw1 (Or.inl rfl) (t_Sf_pageOf (by omega) hσ2) (j_astoreO (x := x3) [some (.ref v0), some (.int v1), some (.int v2), some (.int v3), some (q_rf x3), none] rfl rfl (Or.inr rfl) rfl (j_aloadO (x := x3) rfl rfl (g)))))) ?_
  cases ha4 : x3 with
  | none =>
    try subst ha4
    exact J_some (fun h => j_nul_t rfl (j_aloadO (x := none) rfl rfl (j_aret (x := none) rfl (Or.inl ⟨_, rfl⟩) h)))
  | some a4 =>
    try subst ha4
    refine q_J.step (fun g => j_nul_f rfl (j_iload_n rfl rfl (g))) ?_
    refine J_ite (fun h5 => ?_) (fun h5 => ?_)
    · exact J_some (fun h => j_if_f rfl (cc_ne_f h5) (j_aload rfl rfl (j_aret (x := some a4) rfl (Or.inl ⟨_, rfl⟩) h)))
    refine q_J.step (fun g => j_if_t rfl (cc_ne_t h5) (j_iload_n rfl rfl (j_iconst (1 : Int32) rfl k32_1 (g)))) ?_
    refine J_sq (fun (t16 : Int32) (σ17 : q_H) => q_G (q_rf fo) d m_Sf_pageWithin o σ' 58 [none, none, none, some (.int v3), some (.ref a4), none] [.int t16] σ17) ?_ (fun t16 σ17 => ?_)
    · refine J_ite (fun h6 => ?_) (fun h6 => ?_)
      · refine J_bind fun x7 hx7 => ?_
        refine J_bind fun x8 hx8 => ?_
        exact J_some (fun h => j_icmp_f rfl (cc_ne_f h6) (j_aload_n rfl rfl (j_gfr rfl hx7 (j_iload_n rfl rfl (j_ial rfl hx8 (j_goto rfl (j_weak (l := [none, none, none, some (.int v3), some (.ref a4), none]) (And.intro (Or.inl rfl) (And.intro (Or.inl rfl) (And.intro (Or.inl rfl) (And.intro (Or.inr rfl) (And.intro (Or.inr rfl) (And.intro (Or.inr rfl) True.intro)))))) (h))))))))
      refine q_J.step (fun g => j_icmp_t rfl (cc_ne_t h6) (j_iload_n rfl rfl (j_iconst (2 : Int32) rfl k32_2 (g)))) ?_
      refine J_ite (fun h9 => ?_) (fun h9 => ?_)
      · refine J_bind fun x10 hx10 => ?_
        refine J_bind fun x11 hx11 => ?_
        exact J_some (fun h => j_icmp_f rfl (cc_ne_f h9) (j_aload_n rfl rfl (j_gfr rfl hx10 (j_iload_n rfl rfl (j_ial rfl hx11 (j_goto rfl (j_weak (l := [none, none, none, some (.int v3), some (.ref a4), none]) (And.intro (Or.inl rfl) (And.intro (Or.inl rfl) (And.intro (Or.inl rfl) (And.intro (Or.inr rfl) (And.intro (Or.inr rfl) (And.intro (Or.inr rfl) True.intro)))))) (h))))))))
      refine J_bind fun x12 hx12 => ?_
      refine J_bind fun x13 hx13 => ?_
      refine J_bind fun x14 hx14 => ?_
      refine J_bind fun x15 hx15 => ?_
      exact J_some (fun h => j_icmp_t rfl (cc_ne_t h9) (j_aload_n rfl rfl (j_gfr rfl hx12 (j_aload_n rfl rfl (j_gfr rfl hx13 (j_iload_n rfl rfl (j_ial rfl hx14 (j_ial rfl hx15 (j_weak (l := [none, none, none, some (.int v3), some (.ref a4), none]) (And.intro (Or.inl rfl) (And.intro (Or.inl rfl) (And.intro (Or.inl rfl) (And.intro (Or.inr rfl) (And.intro (Or.inr rfl) (And.intro (Or.inr rfl) True.intro)))))) (h))))))))))
    refine q_J.step (fun g => j_istore [none, none, none, some (.int v3), some (.ref a4), some (.int t16)] rfl rfl (Or.inr rfl) rfl (j_iload rfl rfl (j_iload_n rfl rfl (g)))) ?_
    refine J_ite (fun h18 => ?_) (fun h18 => ?_)
    · exact J_some (fun h => j_icmp_f rfl (cc_ne_f h18) (j_aload rfl rfl (j_goto rfl (j_aret (x := some a4) rfl (Or.inl ⟨_, rfl⟩) h))))
    exact J_some (fun h => j_icmp_t rfl (cc_ne_t h18) (j_null rfl (j_aret (x := none) rfl (Or.inl ⟨_, rfl⟩) h)))
theorem t_Sf_pageWithin {fo : Option Nat} {d : Nat} (hd : 3 ≤ d) {v0 : Nat} {v1 : Int32} {v2 : Int32} {v3 : Int32} {σ σ1 : q_H} {r : Option Nat} (h : f_Sf_pageWithin v0 v1 v2 v3 σ = some (r, σ1)) : q_Rel (q_rf fo) q_Ms d 83 [.ref v0, .int v1, .int v2, .int v3] σ (.inl (some (q_rf r))) σ1 := by
  obtain ⟨d, rfl⟩ : ∃ d1, d = d1 + 1 := ⟨d - 1, by omega⟩
  exact q_Rel.of rfl rfl (b_Sf_pageWithin hd _ _ _ _ σ _ _ h ⟨rfl, rfl⟩)

set_option maxRecDepth 100000 in
theorem b_Sf_isUnread {fo : Option Nat} {d : Nat} (hd : 3 ≤ d + 1) {o : q_O} {σ' : q_H} (v0 : Nat) (v1 : Int32) (σ : q_H) : q_J (fun (r : Int32) (σ1 : q_H) => o = .inl (some (.int r)) ∧ σ' = σ1) (f_Sf_isUnread v0 v1 σ) (q_G (q_rf fo) d m_Sf_isUnread o σ' 0 [some (.ref v0), some (.int v1)] [] σ) := by
  unfold f_Sf_isUnread
  refine J_bind fun w1 hw1 => ?_
  refine J_cl fun x3 σ2 hσ2 => ?_
  refine q_J.step (fun g => j_aload_n rfl rfl (j_iload_n rfl rfl (j_v1 [.ref v0, .int v1] [] rfl rfl rfl rfl rfl rfl hw1 (Or.inl rfl) (t_Sf_isTold (by omega) hσ2) (g)))) ?_
  refine J_ite (fun h4 => ?_) (fun h4 => ?_)
  · exact J_some (fun h => j_if_t rfl (cc_eq_t h4) (j_iconst (0 : Int32) rfl k32_0 (j_iret rfl (q_zr (Or.inl rfl)) h)))
  refine J_bind fun x5 hx5 => ?_
  refine J_bind fun x6 hx6 => ?_
  refine q_J.step (fun g => j_if_f rfl (cc_eq_f h4) (j_aload_n rfl rfl (j_gfr rfl hx5 (j_iload_n rfl rfl (j_aalO rfl rfl hx6 (g)))))) ?_
  cases ha7 : x6 with
  | none =>
    try subst ha7
    exact J_some (fun h => j_non_f rfl (j_iconst (1 : Int32) rfl k32_1 (j_goto rfl (j_iret rfl (q_zr (Or.inr rfl)) h))))
  | some a7 =>
    try subst ha7
    exact J_some (fun h => j_non_t rfl (j_iconst (0 : Int32) rfl k32_0 (j_iret rfl (q_zr (Or.inl rfl)) h)))
theorem t_Sf_isUnread {fo : Option Nat} {d : Nat} (hd : 3 ≤ d) {v0 : Nat} {v1 : Int32} {σ σ1 : q_H} {r : Int32} (h : f_Sf_isUnread v0 v1 σ = some (r, σ1)) : q_Rel (q_rf fo) q_Ms d 84 [.ref v0, .int v1] σ (.inl (some (.int r))) σ1 := by
  obtain ⟨d, rfl⟩ : ∃ d1, d = d1 + 1 := ⟨d - 1, by omega⟩
  exact q_Rel.of rfl rfl (b_Sf_isUnread hd _ _ σ _ _ h ⟨rfl, rfl⟩)

set_option maxRecDepth 100000 in
theorem b_Sf_canShareLines {fo : Option Nat} {d : Nat} (hd : 3 ≤ d + 1) {o : q_O} {σ' : q_H} (v0 : Nat) (v1 : Int32) (v2 : Int32) (σ : q_H) : q_J (fun (r : Int32) (σ1 : q_H) => o = .inl (some (.int r)) ∧ σ' = σ1) (f_Sf_canShareLines v0 v1 v2 σ) (q_G (q_rf fo) d m_Sf_canShareLines o σ' 0 [some (.ref v0), some (.int v1), some (.int v2)] [] σ) := by
  unfold f_Sf_canShareLines
  refine J_bind fun w1 hw1 => ?_
  refine J_cl fun x3 σ2 hσ2 => ?_
  refine q_J.step (fun g => j_aload_n rfl rfl (j_iload_n rfl rfl (j_v1 [.ref v0, .int v1] [] rfl rfl rfl rfl rfl rfl hw1 (Or.inl rfl) (t_Sf_pageOf (by omega) hσ2) (g)))) ?_
  cases ha4 : x3 with
  | none =>
    try subst ha4
    exact J_some (fun h => j_nul_t rfl (j_iconst (0 : Int32) rfl k32_0 (j_iret rfl (q_zr (Or.inl rfl)) h)))
  | some a4 =>
    try subst ha4
    refine J_bind fun w5 hw5 => ?_
    refine J_cl fun x7 σ6 hσ6 => ?_
    refine q_J.step (fun g => j_nul_f rfl (j_aload_n rfl rfl (j_iload_n rfl rfl (j_v1 [.ref v0, .int v2] [] rfl rfl rfl rfl rfl rfl hw5 (Or.inl rfl) (t_Sf_pageOf (by omega) hσ6) (g))))) ?_
    cases ha8 : x7 with
    | none =>
      try subst ha8
      exact J_some (fun h => j_nul_t rfl (j_iconst (0 : Int32) rfl k32_0 (j_iret rfl (q_zr (Or.inl rfl)) h)))
    | some a8 =>
      try subst ha8
      refine J_bind fun x9 hx9 => ?_
      refine J_bind fun x10 hx10 => ?_
      refine J_bind fun x11 hx11 => ?_
      refine J_bind fun x12 hx12 => ?_
      refine q_J.step (fun g => j_nul_f rfl (j_aload_n rfl rfl (j_gfr rfl hx9 (j_iload_n rfl rfl (j_ial rfl hx10 (j_aload_n rfl rfl (j_gfr rfl hx11 (j_iload_n rfl rfl (j_ial rfl hx12 (g)))))))))) ?_
      refine J_ite (fun h13 => ?_) (fun h13 => ?_)
      · refine J_bind fun x14 hx14 => ?_
        refine J_bind fun x15 hx15 => ?_
        refine J_bind fun x16 hx16 => ?_
        refine J_bind fun x17 hx17 => ?_
        refine q_J.step (fun g => j_icmp_f rfl (cc_ne_f h13) (j_aload_n rfl rfl (j_gfr rfl hx14 (j_iload_n rfl rfl (j_ial rfl hx15 (j_aload_n rfl rfl (j_gfr rfl hx16 (j_iload_n rfl rfl (j_ial rfl hx17 (g)))))))))) ?_
        refine J_ite (fun h18 => ?_) (fun h18 => ?_)
        · exact J_some (fun h => j_icmp_t rfl (cc_eq_t h18) (j_iconst (0 : Int32) rfl k32_0 (j_iret rfl (q_zr (Or.inl rfl)) h)))
        exact J_some (fun h => j_icmp_f rfl (cc_eq_f h18) (j_iconst (1 : Int32) rfl k32_1 (j_goto rfl (j_iret rfl (q_zr (Or.inr rfl)) h))))
      exact J_some (fun h => j_icmp_t rfl (cc_ne_t h13) (j_iconst (0 : Int32) rfl k32_0 (j_iret rfl (q_zr (Or.inl rfl)) h)))
theorem t_Sf_canShareLines {fo : Option Nat} {d : Nat} (hd : 3 ≤ d) {v0 : Nat} {v1 : Int32} {v2 : Int32} {σ σ1 : q_H} {r : Int32} (h : f_Sf_canShareLines v0 v1 v2 σ = some (r, σ1)) : q_Rel (q_rf fo) q_Ms d 87 [.ref v0, .int v1, .int v2] σ (.inl (some (.int r))) σ1 := by
  obtain ⟨d, rfl⟩ : ∃ d1, d = d1 + 1 := ⟨d - 1, by omega⟩
  exact q_Rel.of rfl rfl (b_Sf_canShareLines hd _ _ _ σ _ _ h ⟨rfl, rfl⟩)

set_option maxRecDepth 100000 in
theorem b_Sf_match {fo : Option Nat} {d : Nat} (hd : 3 ≤ d + 1) {o : q_O} {σ' : q_H} (v0 : Nat) (v1 : Int32) (v2 : Nat) (v3 : Int32) (v4 : Int32) (v5 : Nat) (σ : q_H) : q_J (fun (r : Int32) (σ1 : q_H) => o = .inl (some (.int r)) ∧ σ' = σ1) (f_Sf_match v0 v1 v2 v3 v4 v5 σ) (q_G (q_rf fo) d m_Sf_match o σ' 0 [some (.ref v0), some (.int v1), some (.ref v2), some (.int v3), some (.int v4), some (.ref v5), none, none] [] σ) := by
  unfold f_Sf_match
  refine J_bind fun x1 hx1 => ?_
  refine J_bind fun x2 hx2 => ?_
  refine J_bind fun w3 hw3 => ?_
  refine J_cl fun x5 σ4 hσ4 => ?_
  refine q_J.step (fun g => j_aload rfl rfl (j_aload_n rfl rfl (j_gfr rfl hx1 (j_iload_n rfl rfl (j_lal rfl hx2 (j_v1 [.ref v5, .long x2] [] rfl rfl rfl rfl rfl rfl hw3 (Or.inl rfl) (t_Pa_lineOf (by omega) hσ4) (j_istore [some (.ref v0), some (.int v1), some (.ref v2), some (.int v3), some (.int v4), some (.ref v5), some (.int x5), none] rfl rfl (Or.inr rfl) rfl (j_iload rfl rfl (j_iconst (-1 : Int32) rfl k32_m1 (g)))))))))) ?_
  refine J_ite (fun h6 => ?_) (fun h6 => ?_)
  · exact J_some (fun h => j_icmp_t rfl (cc_eq_t h6) (j_iconst (-1 : Int32) rfl k32_m1 (j_iret rfl rfl h)))
  refine J_bind fun x7 hx7 => ?_
  refine J_bind fun x8 hx8 => ?_
  refine J_bind fun x9 hx9 => ?_
  refine J_bind fun x10 hx10 => ?_
  refine q_J.step (fun g => j_icmp_f rfl (cc_eq_f h6) (j_aload_n rfl rfl (j_gfr rfl hx7 (j_iload_n rfl rfl (j_bal rfl rfl hx8 (j_aload rfl rfl (j_gfr rfl hx9 (j_iload rfl rfl (j_bal rfl rfl hx10 (g)))))))))) ?_
  refine J_ite (fun h11 => ?_) (fun h11 => ?_)
  · refine J_bind fun w12 hw12 => ?_
    refine J_cl fun x14 σ13 hσ13 => ?_
    refine q_J.step (fun g => j_icmp_f rfl (cc_ne_f h11) (j_aload_n rfl rfl (j_iload_n rfl rfl (j_aload rfl rfl (j_iload rfl rfl (j_v1 [.ref v2, .int v3, .ref v5, .int x5] [] rfl rfl rfl rfl rfl rfl hw12 (Or.inl rfl) (t_Pa_isFull (by omega) hσ13) (g))))))) ?_
    refine J_ite (fun h15 => ?_) (fun h15 => ?_)
    · exact J_some (fun h => j_if_f rfl (cc_ne_f h15) (j_iconst (-1 : Int32) rfl k32_m1 (j_iret rfl rfl h)))
    refine J_bind fun w16 hw16 => ?_
    refine J_cl fun x18 σ17 hσ17 => ?_
    refine J_bind fun w19 hw19 => ?_
    refine J_cl fun x21 σ20 hσ20 => ?_
    refine q_J.step (fun g => j_if_t rfl (cc_ne_t h15) (j_aload_n rfl rfl (j_iload_n rfl rfl (j_aload_n rfl rfl (j_iload_n rfl rfl (j_v1 [.ref v0, .int v1, .ref v2, .int v3] [] rfl rfl rfl rfl rfl rfl hw16 (Or.inl rfl) (t_Sf_firstBorn (by omega) hσ17) (j_aload_n rfl rfl (j_iload rfl rfl (j_aload rfl rfl (j_iload rfl rfl (j_v1 [.ref v0, .int v4, .ref v5, .int x5] [.int x18] rfl rfl rfl rfl rfl rfl hw19 (Or.inl rfl) (t_Sf_lastBorn (by omega) hσ20) (g)))))))))))) ?_
    refine J_ite (fun h22 => ?_) (fun h22 => ?_)
    · refine q_J.step (fun g => j_icmp_t rfl (cc_gt_t h22) (j_iconst (0 : Int32) rfl k32_0 (j_istore [some (.ref v0), some (.int v1), some (.ref v2), some (.int v3), some (.int v4), some (.ref v5), some (.int x5), some (.int (0 : Int32))] rfl rfl (Or.inr rfl) rfl (j_iload rfl rfl (g))))) ?_
      refine J_ite (fun h23 => ?_) (fun h23 => ?_)
      · exact J_some (fun h => j_if_t rfl (cc_eq_t h23) (j_iconst (-1 : Int32) rfl k32_m1 (j_iret rfl rfl h)))
      exact J_some (fun h => j_if_f rfl (cc_eq_f h23) (j_iload rfl rfl (j_goto rfl (j_iret rfl rfl h))))
    refine J_bind fun w24 hw24 => ?_
    refine J_cl fun x26 σ25 hσ25 => ?_
    refine J_bind fun w27 hw27 => ?_
    refine J_cl fun x29 σ28 hσ28 => ?_
    refine q_J.step (fun g => j_icmp_f rfl (cc_gt_f h22) (j_aload_n rfl rfl (j_iload rfl rfl (j_aload rfl rfl (j_iload rfl rfl (j_v1 [.ref v0, .int v4, .ref v5, .int x5] [] rfl rfl rfl rfl rfl rfl hw24 (Or.inl rfl) (t_Sf_firstBorn (by omega) hσ25) (j_aload_n rfl rfl (j_iload_n rfl rfl (j_aload_n rfl rfl (j_iload_n rfl rfl (j_v1 [.ref v0, .int v1, .ref v2, .int v3] [.int x26] rfl rfl rfl rfl rfl rfl hw27 (Or.inl rfl) (t_Sf_lastBorn (by omega) hσ28) (g)))))))))))) ?_
    refine J_sq (fun (t31 : Int32) (σ32 : q_H) => q_G (q_rf fo) d m_Sf_match o σ' 95 [none, none, none, none, none, none, some (.int x5), none] [.int t31] σ32) ?_ (fun t31 σ32 => ?_)
    · refine J_ite (fun h30 => ?_) (fun h30 => ?_)
      · exact J_some (fun h => j_icmp_t rfl (cc_gt_t h30) (j_iconst (0 : Int32) rfl k32_0 (j_weak (l := [none, none, none, none, none, none, some (.int x5), none]) (And.intro (Or.inl rfl) (And.intro (Or.inl rfl) (And.intro (Or.inl rfl) (And.intro (Or.inl rfl) (And.intro (Or.inl rfl) (And.intro (Or.inl rfl) (And.intro (Or.inr rfl) (And.intro (Or.inr rfl) True.intro)))))))) (h))))
      exact J_some (fun h => j_icmp_f rfl (cc_gt_f h30) (j_iconst (1 : Int32) rfl k32_1 (j_goto rfl (j_weak (l := [none, none, none, none, none, none, some (.int x5), none]) (And.intro (Or.inl rfl) (And.intro (Or.inl rfl) (And.intro (Or.inl rfl) (And.intro (Or.inl rfl) (And.intro (Or.inl rfl) (And.intro (Or.inl rfl) (And.intro (Or.inr rfl) (And.intro (Or.inr rfl) True.intro)))))))) (h)))))
    refine q_J.step (fun g => j_istore [none, none, none, none, none, none, some (.int x5), some (.int t31)] rfl rfl (Or.inr rfl) rfl (j_iload rfl rfl (g))) ?_
    refine J_ite (fun h33 => ?_) (fun h33 => ?_)
    · exact J_some (fun h => j_if_t rfl (cc_eq_t h33) (j_iconst (-1 : Int32) rfl k32_m1 (j_iret rfl rfl h)))
    exact J_some (fun h => j_if_f rfl (cc_eq_f h33) (j_iload rfl rfl (j_goto rfl (j_iret rfl rfl h))))
  exact J_some (fun h => j_icmp_t rfl (cc_ne_t h11) (j_iconst (-1 : Int32) rfl k32_m1 (j_iret rfl rfl h)))
theorem t_Sf_match {fo : Option Nat} {d : Nat} (hd : 3 ≤ d) {v0 : Nat} {v1 : Int32} {v2 : Nat} {v3 : Int32} {v4 : Int32} {v5 : Nat} {σ σ1 : q_H} {r : Int32} (h : f_Sf_match v0 v1 v2 v3 v4 v5 σ = some (r, σ1)) : q_Rel (q_rf fo) q_Ms d 88 [.ref v0, .int v1, .ref v2, .int v3, .int v4, .ref v5] σ (.inl (some (.int r))) σ1 := by
  obtain ⟨d, rfl⟩ : ∃ d1, d = d1 + 1 := ⟨d - 1, by omega⟩
  exact q_Rel.of rfl rfl (b_Sf_match hd _ _ _ _ _ _ σ _ _ h ⟨rfl, rfl⟩)

set_option maxRecDepth 100000 in
theorem l_Ho_begin_L9 {fo : Option Nat} {d : Nat} (hd : 3 ≤ d + 1) {o : q_O} {σ' : q_H} {E : (Unit) → q_H → Prop} (v0 : Nat) (v1 : Nat) (v2 : Int32) (hX : ∀ (t : Unit) σ1, E (t) σ1 → q_G (q_rf fo) d m_Ho_begin o σ' 31 [some (.ref v0), some (.ref v1), some (.int v2), none, none] [] σ1)  : ∀ (n : Nat) (v3 : Int32) (σ : q_H), q_J E (f_Ho_begin_L9 v0 v1 v2 n v3 σ) (q_G (q_rf fo) d m_Ho_begin o σ' 9 [some (.ref v0), some (.ref v1), some (.int v2), some (.int v3), none] [] σ)
  | 0, v3, σ => J_none
  | n + 1, v3, σ => by
    unfold f_Ho_begin_L9
    refine q_J.step (fun g => j_iload_n rfl rfl (j_iconst (4 : Int32) rfl k32_4 (g))) ?_
    refine J_ite (fun h1 => ?_) (fun h1 => ?_)
    · refine J_bind fun x2 hx2 => ?_
      refine J_bind fun σ3 hσ3 => ?_
      exact q_J.step (fun g => j_icmp_f rfl (cc_ge_f h1) (j_aload_n rfl rfl (j_gfr rfl hx2 (j_iload_n rfl rfl (j_iconst (4 : Int32) rfl k32_4 (j_imul rfl (j_iload_n rfl rfl (j_iadd rfl (j_iconst (0 : Int32) rfl k32_0 (j_ias rfl hσ3 (j_iinc [some (.ref v0), some (.ref v1), some (.int v2), some (.int (v3 + (1 : Int32))), none] (v3 + (1 : Int32)) rfl rfl (by rw [k32_1]) (Or.inr rfl) rfl (j_goto rfl (g))))))))))))) (l_Ho_begin_L9 hd v0 v1 v2 hX n (v3 + (1 : Int32)) σ3)
    exact J_some (fun h => j_icmp_t rfl (cc_ge_t h1) (j_weak (l := [some (.ref v0), some (.ref v1), some (.int v2), none, none]) (And.intro (Or.inr rfl) (And.intro (Or.inr rfl) (And.intro (Or.inr rfl) (And.intro (Or.inl rfl) (And.intro (Or.inr rfl) True.intro))))) (hX _ _ h)))

set_option maxRecDepth 100000 in
theorem l_Ho_begin_L40 {fo : Option Nat} {d : Nat} (hd : 3 ≤ d + 1) {o : q_O} {σ' : q_H} {E : (Unit) → q_H → Prop} (v0 : Nat) (v1 : Nat) (v2 : Int32) (v3 : Option Nat) (hX : ∀ (t : Unit) σ1, E (t) σ1 → q_G (q_rf fo) d m_Ho_begin o σ' 99 [none, none, none, none, none] [] σ1)  : ∀ (n : Nat) (v4 : Int32) (σ : q_H), q_J E (f_Ho_begin_L40 v0 v1 v2 v3 n v4 σ) (q_G (q_rf fo) d m_Ho_begin o σ' 40 [some (.ref v0), some (.ref v1), some (.int v2), some (q_rf v3), some (.int v4)] [] σ)
  | 0, v4, σ => J_none
  | n + 1, v4, σ => by
    unfold f_Ho_begin_L40
    refine q_J.step (fun g => j_aload_nO (x := v3) rfl rfl (g)) ?_
    cases ha1 : v3 with
    | none =>
      try subst ha1
      exact J_some (fun h => j_nul_t rfl (j_weak (l := [none, none, none, none, none]) (And.intro (Or.inl rfl) (And.intro (Or.inl rfl) (And.intro (Or.inl rfl) (And.intro (Or.inl rfl) (And.intro (Or.inl rfl) True.intro))))) (hX _ _ h)))
    | some a1 =>
      try subst ha1
      refine J_bind fun x2 hx2 => ?_
      refine q_J.step (fun g => j_nul_f rfl (j_iload rfl rfl (j_aload_n rfl rfl (j_gfi rfl hx2 (g))))) ?_
      refine J_ite (fun h3 => ?_) (fun h3 => ?_)
      · refine J_bind fun x4 hx4 => ?_
        refine J_bind fun w5 hw5 => ?_
        refine J_cl fun x7 σ6 hσ6 => ?_
        refine J_bind fun σ8 hσ8 => ?_
        refine J_bind fun x9 hx9 => ?_
        refine J_bind fun w10 hw10 => ?_
        refine J_cl fun x12 σ11 hσ11 => ?_
        refine J_bind fun σ13 hσ13 => ?_
        exact q_J.step (fun g => j_icmp_f rfl (cc_ge_f h3) (j_aload_n rfl rfl (j_gfr rfl hx4 (j_iload_n rfl rfl (j_bipush (12 : Int32) rfl kb_12 (j_imul rfl (j_iload rfl rfl (j_iadd rfl (j_aload_n rfl rfl (j_iload_n rfl rfl (j_aload_n rfl rfl (j_iload rfl rfl (j_v1 [.ref v1, .int v2, .ref a1, .int v4] [.int ((v2 * (12 : Int32)) + v4), .ref x4] rfl rfl rfl rfl rfl rfl hw5 (Or.inl rfl) (t_Sf_firstBorn (by omega) hσ6) (j_ias rfl hσ8 (j_aload_n rfl rfl (j_gfr rfl hx9 (j_iload_n rfl rfl (j_bipush (12 : Int32) rfl kb_12 (j_imul rfl (j_iload rfl rfl (j_iadd rfl (j_aload_n rfl rfl (j_iload_n rfl rfl (j_aload_n rfl rfl (j_iload rfl rfl (j_v1 [.ref v1, .int v2, .ref a1, .int v4] [.int ((v2 * (12 : Int32)) + v4), .ref x9] rfl rfl rfl rfl rfl rfl hw10 (Or.inl rfl) (t_Sf_lastBorn (by omega) hσ11) (j_ias rfl hσ13 (j_iinc [some (.ref v0), some (.ref v1), some (.int v2), some (.ref a1), some (.int (v4 + (1 : Int32)))] (v4 + (1 : Int32)) rfl rfl (by rw [k32_1]) (Or.inr rfl) rfl (j_goto rfl (g)))))))))))))))))))))))))))))) (l_Ho_begin_L40 hd v0 v1 v2 (some a1) hX n (v4 + (1 : Int32)) σ13)
      exact J_some (fun h => j_icmp_t rfl (cc_ge_t h3) (j_weak (l := [none, none, none, none, none]) (And.intro (Or.inl rfl) (And.intro (Or.inl rfl) (And.intro (Or.inl rfl) (And.intro (Or.inl rfl) (And.intro (Or.inl rfl) True.intro))))) (hX _ _ h)))

set_option maxRecDepth 100000 in
theorem b_Ho_begin {fo : Option Nat} {d : Nat} (hd : 3 ≤ d + 1) {o : q_O} {σ' : q_H} (v0 : Nat) (v1 : Nat) (v2 : Int32) (σ : q_H) : q_J (fun (r : Unit) (σ1 : q_H) => o = .inl none ∧ σ' = σ1) (f_Ho_begin v0 v1 v2 σ) (q_G (q_rf fo) d m_Ho_begin o σ' 0 [some (.ref v0), some (.ref v1), some (.int v2), none, none] [] σ) := by
  unfold f_Ho_begin
  refine J_bind fun x1 hx1 => ?_
  refine J_bind fun σ2 hσ2 => ?_
  refine J_sq (fun (t3 : Unit) (σ4 : q_H) => q_G (q_rf fo) d m_Ho_begin o σ' 31 [some (.ref v0), some (.ref v1), some (.int v2), none, none] [] σ4) (q_J.step (fun g => j_aload_n rfl rfl (j_gfr rfl hx1 (j_iload_n rfl rfl (j_iload_n rfl rfl (j_ias rfl hσ2 (j_iconst (0 : Int32) rfl k32_0 (j_istore_n [some (.ref v0), some (.ref v1), some (.int v2), some (.int (0 : Int32)), none] rfl rfl (Or.inr rfl) rfl (g)))))))) (l_Ho_begin_L9 hd v0 v1 v2 (fun _ _ h => h) q_FU (0 : Int32) σ2)) (fun t3 σ4 => ?_)
  refine J_bind fun w5 hw5 => ?_
  refine J_cl fun x7 σ6 hσ6 => ?_
  refine J_sq (fun (t8 : Unit) (σ9 : q_H) => q_G (q_rf fo) d m_Ho_begin o σ' 99 [none, none, none, none, none] [] σ9) (q_J.step (fun g => j_aload_n rfl rfl (j_iload_n rfl rfl (j_v1 [.ref v1, .int v2] [] rfl rfl rfl rfl rfl rfl hw5 (Or.inl rfl) (t_Sf_pageOf (by omega) hσ6) (j_astore_nO (x := x7) [some (.ref v0), some (.ref v1), some (.int v2), some (q_rf x7), none] rfl rfl (Or.inr rfl) rfl (j_iconst (0 : Int32) rfl k32_0 (j_istore [some (.ref v0), some (.ref v1), some (.int v2), some (q_rf x7), some (.int (0 : Int32))] rfl rfl (Or.inr (q_rf_cat _)) rfl (g))))))) (l_Ho_begin_L40 hd v0 v1 v2 x7 (fun _ _ h => h) q_FU (0 : Int32) σ6)) (fun t8 σ9 => ?_)
  exact J_some (fun h => j_vret rfl rfl h)
theorem t_Ho_begin {fo : Option Nat} {d : Nat} (hd : 3 ≤ d) {v0 : Nat} {v1 : Nat} {v2 : Int32} {σ σ1 : q_H} {r : Unit} (h : f_Ho_begin v0 v1 v2 σ = some (r, σ1)) : q_Rel (q_rf fo) q_Ms d 98 [.ref v0, .ref v1, .int v2] σ (.inl none) σ1 := by
  obtain ⟨d, rfl⟩ : ∃ d1, d = d1 + 1 := ⟨d - 1, by omega⟩
  exact q_Rel.of rfl rfl (b_Ho_begin hd _ _ _ σ _ _ h ⟨rfl, rfl⟩)

set_option maxRecDepth 100000 in
theorem l_Ho_countOf_L4 {fo : Option Nat} {d : Nat} (hd : 3 ≤ d + 1) {o : q_O} {σ' : q_H} {E : (Int32) → q_H → Prop} (v0 : Nat) (v1 : Nat) (hX : ∀ (t : Int32) σ1, E (t) σ1 → q_G (q_rf fo) d m_Ho_countOf o σ' 42 [none, none, some (.int t), none] [] σ1)  : ∀ (n : Nat) (v2 : Int32) (v3 : Int32) (σ : q_H), q_J E (f_Ho_countOf_L4 v0 v1 n v2 v3 σ) (q_G (q_rf fo) d m_Ho_countOf o σ' 4 [some (.ref v0), some (.ref v1), some (.int v2), some (.int v3)] [] σ)
  | 0, v2, v3, σ => J_none
  | n + 1, v2, v3, σ => by
    unfold f_Ho_countOf_L4
    refine q_J.step (fun g => j_iload_n rfl rfl (j_bipush (24 : Int32) rfl kb_24 (g))) ?_
    refine J_ite (fun h1 => ?_) (fun h1 => ?_)
    · refine J_bind fun w2 hw2 => ?_
      refine J_cl fun x4 σ3 hσ3 => ?_
      refine q_J.step (fun g => j_icmp_f rfl (cc_ge_f h1) (j_iload_n rfl rfl (j_aload_n rfl rfl (j_iload_n rfl rfl (j_v1 [.ref v1, .int v3] [.int v2] rfl rfl rfl rfl rfl rfl hw2 (Or.inl rfl) (t_Sf_pageOf (by omega) hσ3) (g)))))) ?_
      cases ha5 : x4 with
      | none =>
        try subst ha5
        exact q_J.step (fun g => j_nul_t rfl (j_iconst (0 : Int32) rfl k32_0 (j_iadd rfl (j_istore_n [some (.ref v0), some (.ref v1), some (.int (v2 + (0 : Int32))), some (.int v3)] rfl rfl (Or.inr rfl) rfl (j_iinc [some (.ref v0), some (.ref v1), some (.int (v2 + (0 : Int32))), some (.int (v3 + (1 : Int32)))] (v3 + (1 : Int32)) rfl rfl (by rw [k32_1]) (Or.inr rfl) rfl (j_goto rfl (g))))))) (l_Ho_countOf_L4 hd v0 v1 hX n (v2 + (0 : Int32)) (v3 + (1 : Int32)) σ3)
      | some a5 =>
        try subst ha5
        refine J_bind fun x6 hx6 => ?_
        refine J_bind fun x7 hx7 => ?_
        refine q_J.step (fun g => j_nul_f rfl (j_aload_n rfl rfl (j_gfr rfl hx6 (j_iload_n rfl rfl (j_ial rfl hx7 (j_iload_n rfl rfl (g))))))) ?_
        refine J_ite (fun h8 => ?_) (fun h8 => ?_)
        · exact q_J.step (fun g => j_icmp_f rfl (cc_ne_f h8) (j_iconst (1 : Int32) rfl k32_1 (j_goto rfl (j_iadd rfl (j_istore_n [some (.ref v0), some (.ref v1), some (.int (v2 + (1 : Int32))), some (.int v3)] rfl rfl (Or.inr rfl) rfl (j_iinc [some (.ref v0), some (.ref v1), some (.int (v2 + (1 : Int32))), some (.int (v3 + (1 : Int32)))] (v3 + (1 : Int32)) rfl rfl (by rw [k32_1]) (Or.inr rfl) rfl (j_goto rfl (g)))))))) (l_Ho_countOf_L4 hd v0 v1 hX n (v2 + (1 : Int32)) (v3 + (1 : Int32)) σ3)
        exact q_J.step (fun g => j_icmp_t rfl (cc_ne_t h8) (j_iconst (0 : Int32) rfl k32_0 (j_iadd rfl (j_istore_n [some (.ref v0), some (.ref v1), some (.int (v2 + (0 : Int32))), some (.int v3)] rfl rfl (Or.inr rfl) rfl (j_iinc [some (.ref v0), some (.ref v1), some (.int (v2 + (0 : Int32))), some (.int (v3 + (1 : Int32)))] (v3 + (1 : Int32)) rfl rfl (by rw [k32_1]) (Or.inr rfl) rfl (j_goto rfl (g))))))) (l_Ho_countOf_L4 hd v0 v1 hX n (v2 + (0 : Int32)) (v3 + (1 : Int32)) σ3)
    exact J_some (fun h => j_icmp_t rfl (cc_ge_t h1) (j_weak (l := [none, none, some (.int v2), none]) (And.intro (Or.inl rfl) (And.intro (Or.inl rfl) (And.intro (Or.inr rfl) (And.intro (Or.inl rfl) True.intro)))) (hX _ _ h)))

set_option maxRecDepth 100000 in
theorem b_Ho_countOf {fo : Option Nat} {d : Nat} (hd : 3 ≤ d + 1) {o : q_O} {σ' : q_H} (v0 : Nat) (v1 : Nat) (σ : q_H) : q_J (fun (r : Int32) (σ1 : q_H) => o = .inl (some (.int r)) ∧ σ' = σ1) (f_Ho_countOf v0 v1 σ) (q_G (q_rf fo) d m_Ho_countOf o σ' 0 [some (.ref v0), some (.ref v1), none, none] [] σ) := by
  unfold f_Ho_countOf
  refine J_sq (fun (t1 : Int32) (σ2 : q_H) => q_G (q_rf fo) d m_Ho_countOf o σ' 42 [none, none, some (.int t1), none] [] σ2) (q_J.step (fun g => j_iconst (0 : Int32) rfl k32_0 (j_istore_n [some (.ref v0), some (.ref v1), some (.int (0 : Int32)), none] rfl rfl (Or.inr rfl) rfl (j_iconst (0 : Int32) rfl k32_0 (j_istore_n [some (.ref v0), some (.ref v1), some (.int (0 : Int32)), some (.int (0 : Int32))] rfl rfl (Or.inr rfl) rfl (g))))) (l_Ho_countOf_L4 hd v0 v1 (fun _ _ h => h) q_FU (0 : Int32) (0 : Int32) σ)) (fun t1 σ2 => ?_)
  exact J_some (fun h => j_iload_n rfl rfl (j_iret rfl rfl h))
theorem t_Ho_countOf {fo : Option Nat} {d : Nat} (hd : 3 ≤ d) {v0 : Nat} {v1 : Nat} {σ σ1 : q_H} {r : Int32} (h : f_Ho_countOf v0 v1 σ = some (r, σ1)) : q_Rel (q_rf fo) q_Ms d 104 [.ref v0, .ref v1] σ (.inl (some (.int r))) σ1 := by
  obtain ⟨d, rfl⟩ : ∃ d1, d = d1 + 1 := ⟨d - 1, by omega⟩
  exact q_Rel.of rfl rfl (b_Ho_countOf hd _ _ σ _ _ h ⟨rfl, rfl⟩)

set_option maxRecDepth 100000 in
theorem b_Rs_may {fo : Option Nat} {d : Nat} (hd : 3 ≤ d + 1) {o : q_O} {σ' : q_H} (v0 : Nat) (v1 : Int32) (v2 : Int32) (σ : q_H) : q_J (fun (r : Int32) (σ1 : q_H) => o = .inl (some (.int r)) ∧ σ' = σ1) (f_Rs_may v0 v1 v2 σ) (q_G (q_rf fo) d m_Rs_may o σ' 0 [some (.ref v0), some (.int v1), some (.int v2)] [] σ) := by
  unfold f_Rs_may
  refine J_bind fun x1 hx1 => ?_
  refine J_bind fun w2 hw2 => ?_
  refine J_cl fun x4 σ3 hσ3 => ?_
  refine q_J.step (fun g => j_aload_n rfl rfl (j_gfr rfl hx1 (j_iload_n rfl rfl (j_v1 [.ref x1, .int v1] [] rfl rfl rfl rfl rfl rfl hw2 (Or.inl rfl) (t_Sf_isTold (by omega) hσ3) (g))))) ?_
  refine J_ite (fun h5 => ?_) (fun h5 => ?_)
  · exact J_some (fun h => j_if_t rfl (cc_eq_t h5) (j_iconst (0 : Int32) rfl k32_0 (j_iret rfl (q_zr (Or.inl rfl)) h)))
  refine J_cl fun x7 σ6 hσ6 => ?_
  refine q_J.step (fun g => j_if_f rfl (cc_eq_f h5) (j_iconst (0 : Int32) rfl k32_0 (j_iload_n rfl rfl (j_bipush (20 : Int32) rfl kb_20 (j_s1 [.int (0 : Int32), .int v2, .int (20 : Int32)] [] rfl rfl rfl rfl rfl (t_Rs_isFrom (by omega) hσ6) (g)))))) ?_
  refine J_ite (fun h8 => ?_) (fun h8 => ?_)
  · exact J_some (fun h => j_if_f rfl (cc_ne_f h8) (j_iconst (0 : Int32) rfl k32_0 (j_iret rfl (q_zr (Or.inl rfl)) h)))
  refine J_bind fun x9 hx9 => ?_
  refine J_bind fun x10 hx10 => ?_
  refine J_bind fun σ11 hσ11 => ?_
  exact J_some (fun h => j_if_t rfl (cc_ne_t h8) (j_aload_n rfl rfl (j_gfr rfl hx9 (j_gfr rfl hx10 (j_iload_n rfl rfl (j_iload_n rfl rfl (j_ias rfl hσ11 (j_iconst (1 : Int32) rfl k32_1 (j_iret rfl (q_zr (Or.inr rfl)) h)))))))))
theorem t_Rs_may {fo : Option Nat} {d : Nat} (hd : 3 ≤ d) {v0 : Nat} {v1 : Int32} {v2 : Int32} {σ σ1 : q_H} {r : Int32} (h : f_Rs_may v0 v1 v2 σ = some (r, σ1)) : q_Rel (q_rf fo) q_Ms d 109 [.ref v0, .int v1, .int v2] σ (.inl (some (.int r))) σ1 := by
  obtain ⟨d, rfl⟩ : ∃ d1, d = d1 + 1 := ⟨d - 1, by omega⟩
  exact q_Rel.of rfl rfl (b_Rs_may hd _ _ _ σ _ _ h ⟨rfl, rfl⟩)

set_option maxRecDepth 100000 in
theorem b_Rs_feed {fo : Option Nat} {d : Nat} (hd : 3 ≤ d + 1) {o : q_O} {σ' : q_H} (v0 : Nat) (v1 : Int64) (v3 : Int64) (v5 : Int64) (σ : q_H) : q_J (fun (r : Int32) (σ1 : q_H) => o = .inl (some (.int r)) ∧ σ' = σ1) (f_Rs_feed v0 v1 v3 v5 σ) (q_G (q_rf fo) d m_Rs_feed o σ' 0 [some (.ref v0), some (.long v1), none, some (.long v3), none, some (.long v5), none] [] σ) := by
  unfold f_Rs_feed
  refine J_bind fun x1 hx1 => ?_
  refine J_bind fun w2 hw2 => ?_
  refine J_cl fun _ σ3 hσ3 => ?_
  refine J_bind fun x5 hx5 => ?_
  refine J_bind fun w6 hw6 => ?_
  refine J_cl fun _ σ7 hσ7 => ?_
  refine J_bind fun x9 hx9 => ?_
  refine J_bind fun w10 hw10 => ?_
  refine J_cl fun _ σ11 hσ11 => ?_
  refine J_bind fun x13 hx13 => ?_
  refine J_bind fun x14 hx14 => ?_
  exact J_some (fun h => j_aload_n rfl rfl (j_gfr rfl hx1 (j_lload_n rfl rfl (j_v0 [.ref x1, .long v1] [] rfl rfl rfl rfl rfl rfl hw2 (Or.inl rfl) (t_Ta_put (by omega) hσ3) (j_aload_n rfl rfl (j_gfr rfl hx5 (j_lload_n rfl rfl (j_v0 [.ref x5, .long v3] [] rfl rfl rfl rfl rfl rfl hw6 (Or.inl rfl) (t_Ta_put (by omega) hσ7) (j_aload_n rfl rfl (j_gfr rfl hx9 (j_lload rfl rfl (j_v0 [.ref x9, .long v5] [] rfl rfl rfl rfl rfl rfl hw10 (Or.inl rfl) (t_Ta_put (by omega) hσ11) (j_aload_n rfl rfl (j_gfr rfl hx13 (j_gfi rfl hx14 (j_iret rfl rfl h))))))))))))))))
theorem t_Rs_feed {fo : Option Nat} {d : Nat} (hd : 3 ≤ d) {v0 : Nat} {v1 : Int64} {v3 : Int64} {v5 : Int64} {σ σ1 : q_H} {r : Int32} (h : f_Rs_feed v0 v1 v3 v5 σ = some (r, σ1)) : q_Rel (q_rf fo) q_Ms d 110 [.ref v0, .long v1, .long v3, .long v5] σ (.inl (some (.int r))) σ1 := by
  obtain ⟨d, rfl⟩ : ∃ d1, d = d1 + 1 := ⟨d - 1, by omega⟩
  exact q_Rel.of rfl rfl (b_Rs_feed hd _ _ _ _ σ _ _ h ⟨rfl, rfl⟩)

set_option maxRecDepth 100000 in
theorem b_Rs_forget {fo : Option Nat} {d : Nat} (hd : 3 ≤ d + 1) {o : q_O} {σ' : q_H} (v0 : Nat) (v1 : Int32) (σ : q_H) : q_J (fun (r : Int32) (σ1 : q_H) => o = .inl (some (.int r)) ∧ σ' = σ1) (f_Rs_forget v0 v1 σ) (q_G (q_rf fo) d m_Rs_forget o σ' 0 [some (.ref v0), some (.int v1)] [] σ) := by
  unfold f_Rs_forget
  refine J_bind fun x1 hx1 => ?_
  refine J_bind fun w2 hw2 => ?_
  refine J_cl fun x4 σ3 hσ3 => ?_
  refine q_J.step (fun g => j_aload_n rfl rfl (j_gfr rfl hx1 (j_iload_n rfl rfl (j_v1 [.ref x1, .int v1] [] rfl rfl rfl rfl rfl rfl hw2 (Or.inl rfl) (t_Sf_pageOf (by omega) hσ3) (g))))) ?_
  cases ha5 : x4 with
  | none =>
    try subst ha5
    exact J_some (fun h => j_non_f rfl (j_iconst (0 : Int32) rfl k32_0 (j_iret rfl (q_zr (Or.inl rfl)) h)))
  | some a5 =>
    try subst ha5
    refine J_bind fun x6 hx6 => ?_
    refine J_bind fun x7 hx7 => ?_
    refine J_bind fun σ8 hσ8 => ?_
    refine J_bind fun x9 hx9 => ?_
    refine J_bind fun σ10 hσ10 => ?_
    exact J_some (fun h => j_non_t rfl (j_aload_n rfl rfl (j_gfr rfl hx6 (j_gfr rfl hx7 (j_iload_n rfl rfl (j_null rfl (j_aas rfl (Or.inl ⟨rfl, rfl⟩) (Or.inl rfl) hσ8 (j_aload_n rfl rfl (j_gfr rfl hx9 (j_iconst (1 : Int32) rfl k32_1 (j_putf rfl rfl (by decide) rfl hσ10 (j_iconst (1 : Int32) rfl k32_1 (j_iret rfl (q_zr (Or.inr rfl)) h)))))))))))))
theorem t_Rs_forget {fo : Option Nat} {d : Nat} (hd : 3 ≤ d) {v0 : Nat} {v1 : Int32} {σ σ1 : q_H} {r : Int32} (h : f_Rs_forget v0 v1 σ = some (r, σ1)) : q_Rel (q_rf fo) q_Ms d 112 [.ref v0, .int v1] σ (.inl (some (.int r))) σ1 := by
  obtain ⟨d, rfl⟩ : ∃ d1, d = d1 + 1 := ⟨d - 1, by omega⟩
  exact q_Rel.of rfl rfl (b_Rs_forget hd _ _ σ _ _ h ⟨rfl, rfl⟩)

set_option maxRecDepth 100000 in
theorem b_Rs_lines {fo : Option Nat} {d : Nat} (hd : 3 ≤ d + 1) {o : q_O} {σ' : q_H} (v0 : Nat) (v1 : Int32) (σ : q_H) : q_J (fun (r : Int32) (σ1 : q_H) => o = .inl (some (.int r)) ∧ σ' = σ1) (f_Rs_lines v0 v1 σ) (q_G (q_rf fo) d m_Rs_lines o σ' 0 [some (.ref v0), some (.int v1), none] [] σ) := by
  unfold f_Rs_lines
  refine J_bind fun x1 hx1 => ?_
  refine J_bind fun w2 hw2 => ?_
  refine J_cl fun x4 σ3 hσ3 => ?_
  refine q_J.step (fun g => j_aload_n rfl rfl (j_gfr rfl hx1 (j_iload_n rfl rfl (j_v1 [.ref x1, .int v1] [] rfl rfl rfl rfl rfl rfl hw2 (Or.inl rfl) (t_Sf_pageOf (by omega) hσ3) (j_astore_nO (x := x4) [some (.ref v0), some (.int v1), some (q_rf x4)] rfl rfl (Or.inr rfl) rfl (j_aload_nO (x := x4) rfl rfl (g))))))) ?_
  cases ha5 : x4 with
  | none =>
    try subst ha5
    exact J_some (fun h => j_non_f rfl (j_iconst (-1 : Int32) rfl k32_m1 (j_goto rfl (j_iret rfl rfl h))))
  | some a5 =>
    try subst ha5
    refine J_bind fun x6 hx6 => ?_
    exact J_some (fun h => j_non_t rfl (j_aload_n rfl rfl (j_gfi rfl hx6 (j_iret rfl rfl h))))
theorem t_Rs_lines {fo : Option Nat} {d : Nat} (hd : 3 ≤ d) {v0 : Nat} {v1 : Int32} {σ σ1 : q_H} {r : Int32} (h : f_Rs_lines v0 v1 σ = some (r, σ1)) : q_Rel (q_rf fo) q_Ms d 113 [.ref v0, .int v1] σ (.inl (some (.int r))) σ1 := by
  obtain ⟨d, rfl⟩ : ∃ d1, d = d1 + 1 := ⟨d - 1, by omega⟩
  exact q_Rel.of rfl rfl (b_Rs_lines hd _ _ σ _ _ h ⟨rfl, rfl⟩)

set_option maxRecDepth 100000 in
theorem b_Rs_kin {fo : Option Nat} {d : Nat} (hd : 3 ≤ d + 1) {o : q_O} {σ' : q_H} (v0 : Nat) (v1 : Int32) (v2 : Int32) (v3 : Int32) (σ : q_H) : q_J (fun (r : Int32) (σ1 : q_H) => o = .inl (some (.int r)) ∧ σ' = σ1) (f_Rs_kin v0 v1 v2 v3 σ) (q_G (q_rf fo) d m_Rs_kin o σ' 0 [some (.ref v0), some (.int v1), some (.int v2), some (.int v3), none] [] σ) := by
  unfold f_Rs_kin
  refine J_bind fun x1 hx1 => ?_
  refine J_bind fun w2 hw2 => ?_
  refine J_cl fun x4 σ3 hσ3 => ?_
  refine q_J.step (fun g => j_aload_n rfl rfl (j_gfr rfl hx1 (j_iload_n rfl rfl (j_v1 [.ref x1, .int v1] [] rfl rfl rfl rfl rfl rfl hw2 (Or.inl rfl) (t_Sf_pageOf (by omega) hσ3) (j_astoreO (x := x4) [some (.ref v0), some (.int v1), some (.int v2), some (.int v3), some (q_rf x4)] rfl rfl (Or.inr rfl) rfl (j_aloadO (x := x4) rfl rfl (g))))))) ?_
  cases ha5 : x4 with
  | none =>
    try subst ha5
    exact J_some (fun h => j_nul_t rfl (j_iconst (-1 : Int32) rfl k32_m1 (j_iret rfl rfl h)))
  | some a5 =>
    try subst ha5
    refine J_bind fun w6 hw6 => ?_
    refine J_cl fun x8 σ7 hσ7 => ?_
    refine q_J.step (fun g => j_nul_f rfl (j_aload rfl rfl (j_iload_n rfl rfl (j_v1 [.ref a5, .int v2] [] rfl rfl rfl rfl rfl rfl hw6 (Or.inl rfl) (t_Pa_has (by omega) hσ7) (g))))) ?_
    refine J_ite (fun h9 => ?_) (fun h9 => ?_)
    · exact J_some (fun h => j_if_t rfl (cc_eq_t h9) (j_iconst (-1 : Int32) rfl k32_m1 (j_iret rfl rfl h)))
    refine J_bind fun w10 hw10 => ?_
    refine J_cl fun x12 σ11 hσ11 => ?_
    refine q_J.step (fun g => j_if_f rfl (cc_eq_f h9) (j_aload rfl rfl (j_iload_n rfl rfl (j_v1 [.ref a5, .int v3] [] rfl rfl rfl rfl rfl rfl hw10 (Or.inl rfl) (t_Pa_has (by omega) hσ11) (g))))) ?_
    refine J_ite (fun h13 => ?_) (fun h13 => ?_)
    · exact J_some (fun h => j_if_t rfl (cc_eq_t h13) (j_iconst (-1 : Int32) rfl k32_m1 (j_iret rfl rfl h)))
    refine q_J.step (fun g => j_if_f rfl (cc_eq_f h13) (j_iload_n rfl rfl (j_iload_n rfl rfl (g)))) ?_
    refine J_ite (fun h14 => ?_) (fun h14 => ?_)
    · exact J_some (fun h => j_icmp_f rfl (cc_ne_f h14) (j_iconst (-1 : Int32) rfl k32_m1 (j_iret rfl rfl h)))
    refine J_bind fun w15 hw15 => ?_
    refine J_cl fun x17 σ16 hσ16 => ?_
    refine q_J.step (fun g => j_icmp_t rfl (cc_ne_t h14) (j_aload rfl rfl (j_iload_n rfl rfl (j_aload rfl rfl (j_iload_n rfl rfl (j_v1 [.ref a5, .int v2, .ref a5, .int v3] [] rfl rfl rfl rfl rfl rfl hw15 (Or.inl rfl) (t_Pa_isFull (by omega) hσ16) (g))))))) ?_
    refine J_ite (fun h18 => ?_) (fun h18 => ?_)
    · refine J_bind fun w19 hw19 => ?_
      refine J_cl fun x21 σ20 hσ20 => ?_
      refine q_J.step (fun g => j_if_t rfl (cc_eq_t h18) (j_aload rfl rfl (j_iload_n rfl rfl (j_iload_n rfl rfl (j_v1 [.ref a5, .int v2, .int v3] [] rfl rfl rfl rfl rfl rfl hw19 (Or.inl rfl) (t_Pa_isHalf (by omega) hσ20) (g)))))) ?_
      refine J_ite (fun h22 => ?_) (fun h22 => ?_)
      · exact J_some (fun h => j_if_t rfl (cc_eq_t h22) (j_iconst (0 : Int32) rfl k32_0 (j_iret rfl rfl h)))
      exact J_some (fun h => j_if_f rfl (cc_eq_f h22) (j_iconst (1 : Int32) rfl k32_1 (j_goto rfl (j_iret rfl rfl h))))
    exact J_some (fun h => j_if_f rfl (cc_eq_f h18) (j_iconst (2 : Int32) rfl k32_2 (j_goto rfl (j_iret rfl rfl h))))
theorem t_Rs_kin {fo : Option Nat} {d : Nat} (hd : 3 ≤ d) {v0 : Nat} {v1 : Int32} {v2 : Int32} {v3 : Int32} {σ σ1 : q_H} {r : Int32} (h : f_Rs_kin v0 v1 v2 v3 σ = some (r, σ1)) : q_Rel (q_rf fo) q_Ms d 114 [.ref v0, .int v1, .int v2, .int v3] σ (.inl (some (.int r))) σ1 := by
  obtain ⟨d, rfl⟩ : ∃ d1, d = d1 + 1 := ⟨d - 1, by omega⟩
  exact q_Rel.of rfl rfl (b_Rs_kin hd _ _ _ _ σ _ _ h ⟨rfl, rfl⟩)

set_option maxRecDepth 100000 in
theorem b_Rs_pageOfWife {fo : Option Nat} {d : Nat} (hd : 3 ≤ d + 1) {o : q_O} {σ' : q_H} (v0 : Nat) (v1 : Int32) (v2 : Int32) (σ : q_H) : q_J (fun (r : Option Nat) (σ1 : q_H) => o = .inl (some (q_rf r)) ∧ σ' = σ1) (f_Rs_pageOfWife v0 v1 v2 σ) (q_G (q_rf fo) d m_Rs_pageOfWife o σ' 0 [some (.ref v0), some (.int v1), some (.int v2), none] [] σ) := by
  unfold f_Rs_pageOfWife
  refine J_bind fun x1 hx1 => ?_
  refine J_bind fun w2 hw2 => ?_
  refine J_cl fun x4 σ3 hσ3 => ?_
  refine q_J.step (fun g => j_aload_n rfl rfl (j_gfr rfl hx1 (j_iload_n rfl rfl (j_v1 [.ref x1, .int v1] [] rfl rfl rfl rfl rfl rfl hw2 (Or.inl rfl) (t_Sf_pageOf (by omega) hσ3) (j_astore_nO (x := x4) [some (.ref v0), some (.int v1), some (.int v2), some (q_rf x4)] rfl rfl (Or.inr rfl) rfl (j_aload_nO (x := x4) rfl rfl (g))))))) ?_
  cases ha5 : x4 with
  | none =>
    try subst ha5
    exact J_some (fun h => j_nul_t rfl (j_null rfl (j_aret (x := none) rfl (Or.inl ⟨_, rfl⟩) h)))
  | some a5 =>
    try subst ha5
    refine J_bind fun w6 hw6 => ?_
    refine J_cl fun x8 σ7 hσ7 => ?_
    refine q_J.step (fun g => j_nul_f rfl (j_aload_n rfl rfl (j_iload_n rfl rfl (j_v1 [.ref a5, .int v2] [] rfl rfl rfl rfl rfl rfl hw6 (Or.inl rfl) (t_Pa_has (by omega) hσ7) (g))))) ?_
    refine J_ite (fun h9 => ?_) (fun h9 => ?_)
    · exact J_some (fun h => j_if_t rfl (cc_eq_t h9) (j_null rfl (j_aret (x := none) rfl (Or.inl ⟨_, rfl⟩) h)))
    refine J_bind fun x10 hx10 => ?_
    refine J_bind fun x11 hx11 => ?_
    refine q_J.step (fun g => j_if_f rfl (cc_eq_f h9) (j_aload_n rfl rfl (j_gfr rfl hx10 (j_iload_n rfl rfl (j_ial rfl hx11 (j_iconst (-1 : Int32) rfl k32_m1 (g))))))) ?_
    refine J_ite (fun h12 => ?_) (fun h12 => ?_)
    · exact J_some (fun h => j_icmp_t rfl (cc_eq_t h12) (j_null rfl (j_aret (x := none) rfl (Or.inl ⟨_, rfl⟩) h)))
    exact J_some (fun h => j_icmp_f rfl (cc_eq_f h12) (j_aload_n rfl rfl (j_goto rfl (j_aret (x := some a5) rfl (Or.inl ⟨_, rfl⟩) h))))
theorem t_Rs_pageOfWife {fo : Option Nat} {d : Nat} (hd : 3 ≤ d) {v0 : Nat} {v1 : Int32} {v2 : Int32} {σ σ1 : q_H} {r : Option Nat} (h : f_Rs_pageOfWife v0 v1 v2 σ = some (r, σ1)) : q_Rel (q_rf fo) q_Ms d 116 [.ref v0, .int v1, .int v2] σ (.inl (some (q_rf r))) σ1 := by
  obtain ⟨d, rfl⟩ : ∃ d1, d = d1 + 1 := ⟨d - 1, by omega⟩
  exact q_Rel.of rfl rfl (b_Rs_pageOfWife hd _ _ _ σ _ _ h ⟨rfl, rfl⟩)

set_option maxRecDepth 100000 in
theorem b_Rs_table {fo : Option Nat} {d : Nat} (hd : 3 ≤ d + 1) {o : q_O} {σ' : q_H} (v0 : Nat) (v1 : Int32) (v2 : Int32) (v3 : Int32) (σ : q_H) : q_J (fun (r : Int32) (σ1 : q_H) => o = .inl (some (.int r)) ∧ σ' = σ1) (f_Rs_table v0 v1 v2 v3 σ) (q_G (q_rf fo) d m_Rs_table o σ' 0 [some (.ref v0), some (.int v1), some (.int v2), some (.int v3)] [] σ) := by
  unfold f_Rs_table
  refine J_cl fun x2 σ1 hσ1 => ?_
  refine q_J.step (fun g => j_iload_n rfl rfl (j_s1 [.int v1] [] rfl rfl rfl rfl rfl (t_Rs_isTable (by omega) hσ1) (g))) ?_
  refine J_ite (fun h3 => ?_) (fun h3 => ?_)
  · exact J_some (fun h => j_if_t rfl (cc_eq_t h3) (j_iconst (0 : Int32) rfl k32_0 (j_iret rfl (q_zr (Or.inl rfl)) h)))
  refine J_cl fun x5 σ4 hσ4 => ?_
  refine q_J.step (fun g => j_if_f rfl (cc_eq_f h3) (j_iconst (0 : Int32) rfl k32_0 (j_iload_n rfl rfl (j_bipush (16 : Int32) rfl kb_16 (j_s1 [.int (0 : Int32), .int v2, .int (16 : Int32)] [] rfl rfl rfl rfl rfl (t_Rs_isFrom (by omega) hσ4) (g)))))) ?_
  refine J_ite (fun h6 => ?_) (fun h6 => ?_)
  · exact J_some (fun h => j_if_t rfl (cc_eq_t h6) (j_iconst (0 : Int32) rfl k32_0 (j_iret rfl (q_zr (Or.inl rfl)) h)))
  refine J_cl fun x8 σ7 hσ7 => ?_
  refine q_J.step (fun g => j_if_f rfl (cc_eq_f h6) (j_iconst (0 : Int32) rfl k32_0 (j_iload_n rfl rfl (j_sipush (1000 : Int32) rfl ks_1000 (j_s1 [.int (0 : Int32), .int v3, .int (1000 : Int32)] [] rfl rfl rfl rfl rfl (t_Rs_isFrom (by omega) hσ7) (g)))))) ?_
  refine J_ite (fun h9 => ?_) (fun h9 => ?_)
  · exact J_some (fun h => j_if_f rfl (cc_ne_f h9) (j_iconst (0 : Int32) rfl k32_0 (j_iret rfl (q_zr (Or.inl rfl)) h)))
  refine J_bind fun x10 hx10 => ?_
  refine J_bind fun x11 hx11 => ?_
  refine J_bind fun x12 hx12 => ?_
  refine J_bind fun σ13 hσ13 => ?_
  exact J_some (fun h => j_if_t rfl (cc_ne_t h9) (j_aload_n rfl rfl (j_gfr rfl hx10 (j_gfr rfl hx11 (j_iload_n rfl rfl (j_aal rfl rfl hx12 (j_iload_n rfl rfl (j_iload_n rfl rfl (j_ias rfl hσ13 (j_iconst (1 : Int32) rfl k32_1 (j_iret rfl (q_zr (Or.inr rfl)) h)))))))))))
theorem t_Rs_table {fo : Option Nat} {d : Nat} (hd : 3 ≤ d) {v0 : Nat} {v1 : Int32} {v2 : Int32} {v3 : Int32} {σ σ1 : q_H} {r : Int32} (h : f_Rs_table v0 v1 v2 v3 σ = some (r, σ1)) : q_Rel (q_rf fo) q_Ms d 132 [.ref v0, .int v1, .int v2, .int v3] σ (.inl (some (.int r))) σ1 := by
  obtain ⟨d, rfl⟩ : ∃ d1, d = d1 + 1 := ⟨d - 1, by omega⟩
  exact q_Rel.of rfl rfl (b_Rs_table hd _ _ _ _ σ _ _ h ⟨rfl, rfl⟩)

set_option maxRecDepth 100000 in
theorem b_Rs_at {fo : Option Nat} {d : Nat} (hd : 3 ≤ d + 1) {o : q_O} {σ' : q_H} (v0 : Nat) (v1 : Int32) (v2 : Int32) (σ : q_H) : q_J (fun (r : Int32) (σ1 : q_H) => o = .inl (some (.int r)) ∧ σ' = σ1) (f_Rs_at v0 v1 v2 σ) (q_G (q_rf fo) d m_Rs_at o σ' 0 [some (.ref v0), some (.int v1), some (.int v2)] [] σ) := by
  unfold f_Rs_at
  refine J_cl fun x2 σ1 hσ1 => ?_
  refine q_J.step (fun g => j_iload_n rfl rfl (j_s1 [.int v1] [] rfl rfl rfl rfl rfl (t_Rs_isTable (by omega) hσ1) (g))) ?_
  refine J_ite (fun h3 => ?_) (fun h3 => ?_)
  · exact J_some (fun h => j_if_t rfl (cc_eq_t h3) (j_iconst (-1 : Int32) rfl k32_m1 (j_iret rfl rfl h)))
  refine J_cl fun x5 σ4 hσ4 => ?_
  refine q_J.step (fun g => j_if_f rfl (cc_eq_f h3) (j_iconst (0 : Int32) rfl k32_0 (j_iload_n rfl rfl (j_sipush (200 : Int32) rfl ks_200 (j_s1 [.int (0 : Int32), .int v2, .int (200 : Int32)] [] rfl rfl rfl rfl rfl (t_Rs_isFrom (by omega) hσ4) (g)))))) ?_
  refine J_ite (fun h6 => ?_) (fun h6 => ?_)
  · exact J_some (fun h => j_if_t rfl (cc_eq_t h6) (j_iconst (-1 : Int32) rfl k32_m1 (j_iret rfl rfl h)))
  refine J_bind fun x7 hx7 => ?_
  refine J_bind fun w8 hw8 => ?_
  refine J_cl fun x10 σ9 hσ9 => ?_
  exact J_some (fun h => j_if_f rfl (cc_eq_f h6) (j_aload_n rfl rfl (j_gfr rfl hx7 (j_iload_n rfl rfl (j_iload_n rfl rfl (j_v1 [.ref x7, .int v1, .int v2] [] rfl rfl rfl rfl rfl rfl hw8 (Or.inl rfl) (t_Li_fifthsAt (by omega) hσ9) (j_goto rfl (j_iret rfl rfl h))))))))
theorem t_Rs_at {fo : Option Nat} {d : Nat} (hd : 3 ≤ d) {v0 : Nat} {v1 : Int32} {v2 : Int32} {σ σ1 : q_H} {r : Int32} (h : f_Rs_at v0 v1 v2 σ = some (r, σ1)) : q_Rel (q_rf fo) q_Ms d 134 [.ref v0, .int v1, .int v2] σ (.inl (some (.int r))) σ1 := by
  obtain ⟨d, rfl⟩ : ∃ d1, d = d1 + 1 := ⟨d - 1, by omega⟩
  exact q_Rel.of rfl rfl (b_Rs_at hd _ _ _ σ _ _ h ⟨rfl, rfl⟩)

