/-! Methods of the reference: walks. -/
set_option maxRecDepth 100000 in
theorem l_Mo_count_L42 {fo : Option Nat} {d : Nat} (hd : 7 ≤ d + 1) {o : q_O} {σ' : q_H} {E : (Int32) → q_H → Prop} (v0 : Nat) (v1 : Int32) (hX : ∀ (t : Int32) σ1, E (t) σ1 → q_G (q_rf fo) d m_Mo_count o σ' 110 [some (.ref v0), some (.int v1), some (.int t), none] [] σ1)  : ∀ (n : Nat) (v2 : Int32) (v3 : Int32) (σ : q_H), q_J E (f_Mo_count_L42 v0 v1 n v2 v3 σ) (q_G (q_rf fo) d m_Mo_count o σ' 42 [some (.ref v0), some (.int v1), some (.int v2), some (.int v3)] [] σ)
  | 0, v2, v3, σ => J_none
  | n + 1, v2, v3, σ => by
    unfold f_Mo_count_L42
    refine q_J.step (fun g => j_iload_n rfl rfl (j_bipush (24 : Int32) rfl kb_24 (g))) ?_
    refine J_ite (fun h1 => ?_) (fun h1 => ?_)
    · refine q_J.step (fun g => j_icmp_f rfl (cc_ge_f h1) (j_iload_n rfl rfl (j_iload_n rfl rfl (g)))) ?_
      refine J_ite (fun h2 => ?_) (fun h2 => ?_)
      · refine J_bind fun x3 hx3 => ?_
        refine J_bind fun x4 hx4 => ?_
        refine q_J.step (fun g => j_if_f rfl (cc_ne_f h2) (j_aload_n rfl rfl (j_gfr rfl hx3 (j_iload_n rfl rfl (j_bal rfl rfl hx4 (g)))))) ?_
        refine J_ite (fun h5 => ?_) (fun h5 => ?_)
        · refine q_J.step (fun g => j_if_f rfl (cc_ne_f h5) (j_iload_n rfl rfl (j_iconst (1 : Int32) rfl k32_1 (g)))) ?_
          refine J_ite (fun h6 => ?_) (fun h6 => ?_)
          · refine J_bind fun w7 hw7 => ?_
            refine J_cl fun x9 σ8 hσ8 => ?_
            refine q_J.step (fun g => j_icmp_f rfl (cc_ne_f h6) (j_aload_n rfl rfl (j_iload_n rfl rfl (j_v1 [.ref v0, .int v3] [.int v2] rfl rfl rfl rfl rfl rfl hw7 (Or.inl rfl) (t_Mo_isThere (by omega) hσ8) (g))))) ?_
            refine J_ite (fun h10 => ?_) (fun h10 => ?_)
            · refine q_J.step (fun g => j_if_t rfl (cc_eq_t h10) (j_iload_n rfl rfl (j_iconst (2 : Int32) rfl k32_2 (g)))) ?_
              refine J_ite (fun h11 => ?_) (fun h11 => ?_)
              · refine J_bind fun w12 hw12 => ?_
                refine J_cl fun x14 σ13 hσ13 => ?_
                refine q_J.step (fun g => j_icmp_f rfl (cc_ne_f h11) (j_aload_n rfl rfl (j_iload_n rfl rfl (j_v1 [.ref v0, .int v3] [.int v2] rfl rfl rfl rfl rfl rfl hw12 (Or.inl rfl) (t_Mo_isThere (by omega) hσ13) (g))))) ?_
                refine J_ite (fun h15 => ?_) (fun h15 => ?_)
                · exact q_J.step (fun g => j_if_t rfl (cc_eq_t h15) (j_iconst (0 : Int32) rfl k32_0 (j_iadd rfl (j_istore_n [some (.ref v0), some (.int v1), some (.int (v2 + (0 : Int32))), some (.int v3)] rfl rfl (Or.inr rfl) rfl (j_iinc [some (.ref v0), some (.int v1), some (.int (v2 + (0 : Int32))), some (.int (v3 + (1 : Int32)))] (v3 + (1 : Int32)) rfl rfl (by rw [k32_1]) (Or.inr rfl) rfl (j_goto rfl (g))))))) (l_Mo_count_L42 hd v0 v1 hX n (v2 + (0 : Int32)) (v3 + (1 : Int32)) σ13)
                refine J_bind fun x16 hx16 => ?_
                refine J_bind fun x17 hx17 => ?_
                exact q_J.step (fun g => j_if_f rfl (cc_eq_f h15) (j_aload_n rfl rfl (j_gfr rfl hx16 (j_iload_n rfl rfl (j_ial rfl hx17 (j_goto rfl (j_iadd rfl (j_istore_n [some (.ref v0), some (.int v1), some (.int (v2 + x17)), some (.int v3)] rfl rfl (Or.inr rfl) rfl (j_iinc [some (.ref v0), some (.int v1), some (.int (v2 + x17)), some (.int (v3 + (1 : Int32)))] (v3 + (1 : Int32)) rfl rfl (by rw [k32_1]) (Or.inr rfl) rfl (j_goto rfl (g))))))))))) (l_Mo_count_L42 hd v0 v1 hX n (v2 + x17) (v3 + (1 : Int32)) σ13)
              exact q_J.step (fun g => j_icmp_t rfl (cc_ne_t h11) (j_iconst (0 : Int32) rfl k32_0 (j_iadd rfl (j_istore_n [some (.ref v0), some (.int v1), some (.int (v2 + (0 : Int32))), some (.int v3)] rfl rfl (Or.inr rfl) rfl (j_iinc [some (.ref v0), some (.int v1), some (.int (v2 + (0 : Int32))), some (.int (v3 + (1 : Int32)))] (v3 + (1 : Int32)) rfl rfl (by rw [k32_1]) (Or.inr rfl) rfl (j_goto rfl (g))))))) (l_Mo_count_L42 hd v0 v1 hX n (v2 + (0 : Int32)) (v3 + (1 : Int32)) σ8)
            exact q_J.step (fun g => j_if_f rfl (cc_eq_f h10) (j_iconst (1 : Int32) rfl k32_1 (j_goto rfl (j_iadd rfl (j_istore_n [some (.ref v0), some (.int v1), some (.int (v2 + (1 : Int32))), some (.int v3)] rfl rfl (Or.inr rfl) rfl (j_iinc [some (.ref v0), some (.int v1), some (.int (v2 + (1 : Int32))), some (.int (v3 + (1 : Int32)))] (v3 + (1 : Int32)) rfl rfl (by rw [k32_1]) (Or.inr rfl) rfl (j_goto rfl (g)))))))) (l_Mo_count_L42 hd v0 v1 hX n (v2 + (1 : Int32)) (v3 + (1 : Int32)) σ8)
          refine q_J.step (fun g => j_icmp_t rfl (cc_ne_t h6) (j_iload_n rfl rfl (j_iconst (2 : Int32) rfl k32_2 (g)))) ?_
          refine J_ite (fun h18 => ?_) (fun h18 => ?_)
          · refine J_bind fun w19 hw19 => ?_
            refine J_cl fun x21 σ20 hσ20 => ?_
            refine q_J.step (fun g => j_icmp_f rfl (cc_ne_f h18) (j_aload_n rfl rfl (j_iload_n rfl rfl (j_v1 [.ref v0, .int v3] [.int v2] rfl rfl rfl rfl rfl rfl hw19 (Or.inl rfl) (t_Mo_isThere (by omega) hσ20) (g))))) ?_
            refine J_ite (fun h22 => ?_) (fun h22 => ?_)
            · exact q_J.step (fun g => j_if_t rfl (cc_eq_t h22) (j_iconst (0 : Int32) rfl k32_0 (j_iadd rfl (j_istore_n [some (.ref v0), some (.int v1), some (.int (v2 + (0 : Int32))), some (.int v3)] rfl rfl (Or.inr rfl) rfl (j_iinc [some (.ref v0), some (.int v1), some (.int (v2 + (0 : Int32))), some (.int (v3 + (1 : Int32)))] (v3 + (1 : Int32)) rfl rfl (by rw [k32_1]) (Or.inr rfl) rfl (j_goto rfl (g))))))) (l_Mo_count_L42 hd v0 v1 hX n (v2 + (0 : Int32)) (v3 + (1 : Int32)) σ20)
            refine J_bind fun x23 hx23 => ?_
            refine J_bind fun x24 hx24 => ?_
            exact q_J.step (fun g => j_if_f rfl (cc_eq_f h22) (j_aload_n rfl rfl (j_gfr rfl hx23 (j_iload_n rfl rfl (j_ial rfl hx24 (j_goto rfl (j_iadd rfl (j_istore_n [some (.ref v0), some (.int v1), some (.int (v2 + x24)), some (.int v3)] rfl rfl (Or.inr rfl) rfl (j_iinc [some (.ref v0), some (.int v1), some (.int (v2 + x24)), some (.int (v3 + (1 : Int32)))] (v3 + (1 : Int32)) rfl rfl (by rw [k32_1]) (Or.inr rfl) rfl (j_goto rfl (g))))))))))) (l_Mo_count_L42 hd v0 v1 hX n (v2 + x24) (v3 + (1 : Int32)) σ20)
          exact q_J.step (fun g => j_icmp_t rfl (cc_ne_t h18) (j_iconst (0 : Int32) rfl k32_0 (j_iadd rfl (j_istore_n [some (.ref v0), some (.int v1), some (.int (v2 + (0 : Int32))), some (.int v3)] rfl rfl (Or.inr rfl) rfl (j_iinc [some (.ref v0), some (.int v1), some (.int (v2 + (0 : Int32))), some (.int (v3 + (1 : Int32)))] (v3 + (1 : Int32)) rfl rfl (by rw [k32_1]) (Or.inr rfl) rfl (j_goto rfl (g))))))) (l_Mo_count_L42 hd v0 v1 hX n (v2 + (0 : Int32)) (v3 + (1 : Int32)) σ)
        exact q_J.step (fun g => j_if_t rfl (cc_ne_t h5) (j_iconst (1 : Int32) rfl k32_1 (j_goto rfl (j_iadd rfl (j_istore_n [some (.ref v0), some (.int v1), some (.int (v2 + (1 : Int32))), some (.int v3)] rfl rfl (Or.inr rfl) rfl (j_iinc [some (.ref v0), some (.int v1), some (.int (v2 + (1 : Int32))), some (.int (v3 + (1 : Int32)))] (v3 + (1 : Int32)) rfl rfl (by rw [k32_1]) (Or.inr rfl) rfl (j_goto rfl (g)))))))) (l_Mo_count_L42 hd v0 v1 hX n (v2 + (1 : Int32)) (v3 + (1 : Int32)) σ)
      refine q_J.step (fun g => j_if_t rfl (cc_ne_t h2) (j_iload_n rfl rfl (j_iconst (1 : Int32) rfl k32_1 (g)))) ?_
      refine J_ite (fun h25 => ?_) (fun h25 => ?_)
      · refine J_bind fun w26 hw26 => ?_
        refine J_cl fun x28 σ27 hσ27 => ?_
        refine q_J.step (fun g => j_icmp_f rfl (cc_ne_f h25) (j_aload_n rfl rfl (j_iload_n rfl rfl (j_v1 [.ref v0, .int v3] [.int v2] rfl rfl rfl rfl rfl rfl hw26 (Or.inl rfl) (t_Mo_isThere (by omega) hσ27) (g))))) ?_
        refine J_ite (fun h29 => ?_) (fun h29 => ?_)
        · refine q_J.step (fun g => j_if_t rfl (cc_eq_t h29) (j_iload_n rfl rfl (j_iconst (2 : Int32) rfl k32_2 (g)))) ?_
          refine J_ite (fun h30 => ?_) (fun h30 => ?_)
          · refine J_bind fun w31 hw31 => ?_
            refine J_cl fun x33 σ32 hσ32 => ?_
            refine q_J.step (fun g => j_icmp_f rfl (cc_ne_f h30) (j_aload_n rfl rfl (j_iload_n rfl rfl (j_v1 [.ref v0, .int v3] [.int v2] rfl rfl rfl rfl rfl rfl hw31 (Or.inl rfl) (t_Mo_isThere (by omega) hσ32) (g))))) ?_
            refine J_ite (fun h34 => ?_) (fun h34 => ?_)
            · exact q_J.step (fun g => j_if_t rfl (cc_eq_t h34) (j_iconst (0 : Int32) rfl k32_0 (j_iadd rfl (j_istore_n [some (.ref v0), some (.int v1), some (.int (v2 + (0 : Int32))), some (.int v3)] rfl rfl (Or.inr rfl) rfl (j_iinc [some (.ref v0), some (.int v1), some (.int (v2 + (0 : Int32))), some (.int (v3 + (1 : Int32)))] (v3 + (1 : Int32)) rfl rfl (by rw [k32_1]) (Or.inr rfl) rfl (j_goto rfl (g))))))) (l_Mo_count_L42 hd v0 v1 hX n (v2 + (0 : Int32)) (v3 + (1 : Int32)) σ32)
            refine J_bind fun x35 hx35 => ?_
            refine J_bind fun x36 hx36 => ?_
            exact q_J.step (fun g => j_if_f rfl (cc_eq_f h34) (j_aload_n rfl rfl (j_gfr rfl hx35 (j_iload_n rfl rfl (j_ial rfl hx36 (j_goto rfl (j_iadd rfl (j_istore_n [some (.ref v0), some (.int v1), some (.int (v2 + x36)), some (.int v3)] rfl rfl (Or.inr rfl) rfl (j_iinc [some (.ref v0), some (.int v1), some (.int (v2 + x36)), some (.int (v3 + (1 : Int32)))] (v3 + (1 : Int32)) rfl rfl (by rw [k32_1]) (Or.inr rfl) rfl (j_goto rfl (g))))))))))) (l_Mo_count_L42 hd v0 v1 hX n (v2 + x36) (v3 + (1 : Int32)) σ32)
          exact q_J.step (fun g => j_icmp_t rfl (cc_ne_t h30) (j_iconst (0 : Int32) rfl k32_0 (j_iadd rfl (j_istore_n [some (.ref v0), some (.int v1), some (.int (v2 + (0 : Int32))), some (.int v3)] rfl rfl (Or.inr rfl) rfl (j_iinc [some (.ref v0), some (.int v1), some (.int (v2 + (0 : Int32))), some (.int (v3 + (1 : Int32)))] (v3 + (1 : Int32)) rfl rfl (by rw [k32_1]) (Or.inr rfl) rfl (j_goto rfl (g))))))) (l_Mo_count_L42 hd v0 v1 hX n (v2 + (0 : Int32)) (v3 + (1 : Int32)) σ27)
        exact q_J.step (fun g => j_if_f rfl (cc_eq_f h29) (j_iconst (1 : Int32) rfl k32_1 (j_goto rfl (j_iadd rfl (j_istore_n [some (.ref v0), some (.int v1), some (.int (v2 + (1 : Int32))), some (.int v3)] rfl rfl (Or.inr rfl) rfl (j_iinc [some (.ref v0), some (.int v1), some (.int (v2 + (1 : Int32))), some (.int (v3 + (1 : Int32)))] (v3 + (1 : Int32)) rfl rfl (by rw [k32_1]) (Or.inr rfl) rfl (j_goto rfl (g)))))))) (l_Mo_count_L42 hd v0 v1 hX n (v2 + (1 : Int32)) (v3 + (1 : Int32)) σ27)
      refine q_J.step (fun g => j_icmp_t rfl (cc_ne_t h25) (j_iload_n rfl rfl (j_iconst (2 : Int32) rfl k32_2 (g)))) ?_
      refine J_ite (fun h37 => ?_) (fun h37 => ?_)
      · refine J_bind fun w38 hw38 => ?_
        refine J_cl fun x40 σ39 hσ39 => ?_
        refine q_J.step (fun g => j_icmp_f rfl (cc_ne_f h37) (j_aload_n rfl rfl (j_iload_n rfl rfl (j_v1 [.ref v0, .int v3] [.int v2] rfl rfl rfl rfl rfl rfl hw38 (Or.inl rfl) (t_Mo_isThere (by omega) hσ39) (g))))) ?_
        refine J_ite (fun h41 => ?_) (fun h41 => ?_)
        · exact q_J.step (fun g => j_if_t rfl (cc_eq_t h41) (j_iconst (0 : Int32) rfl k32_0 (j_iadd rfl (j_istore_n [some (.ref v0), some (.int v1), some (.int (v2 + (0 : Int32))), some (.int v3)] rfl rfl (Or.inr rfl) rfl (j_iinc [some (.ref v0), some (.int v1), some (.int (v2 + (0 : Int32))), some (.int (v3 + (1 : Int32)))] (v3 + (1 : Int32)) rfl rfl (by rw [k32_1]) (Or.inr rfl) rfl (j_goto rfl (g))))))) (l_Mo_count_L42 hd v0 v1 hX n (v2 + (0 : Int32)) (v3 + (1 : Int32)) σ39)
        refine J_bind fun x42 hx42 => ?_
        refine J_bind fun x43 hx43 => ?_
        exact q_J.step (fun g => j_if_f rfl (cc_eq_f h41) (j_aload_n rfl rfl (j_gfr rfl hx42 (j_iload_n rfl rfl (j_ial rfl hx43 (j_goto rfl (j_iadd rfl (j_istore_n [some (.ref v0), some (.int v1), some (.int (v2 + x43)), some (.int v3)] rfl rfl (Or.inr rfl) rfl (j_iinc [some (.ref v0), some (.int v1), some (.int (v2 + x43)), some (.int (v3 + (1 : Int32)))] (v3 + (1 : Int32)) rfl rfl (by rw [k32_1]) (Or.inr rfl) rfl (j_goto rfl (g))))))))))) (l_Mo_count_L42 hd v0 v1 hX n (v2 + x43) (v3 + (1 : Int32)) σ39)
      exact q_J.step (fun g => j_icmp_t rfl (cc_ne_t h37) (j_iconst (0 : Int32) rfl k32_0 (j_iadd rfl (j_istore_n [some (.ref v0), some (.int v1), some (.int (v2 + (0 : Int32))), some (.int v3)] rfl rfl (Or.inr rfl) rfl (j_iinc [some (.ref v0), some (.int v1), some (.int (v2 + (0 : Int32))), some (.int (v3 + (1 : Int32)))] (v3 + (1 : Int32)) rfl rfl (by rw [k32_1]) (Or.inr rfl) rfl (j_goto rfl (g))))))) (l_Mo_count_L42 hd v0 v1 hX n (v2 + (0 : Int32)) (v3 + (1 : Int32)) σ)
    exact J_some (fun h => j_icmp_t rfl (cc_ge_t h1) (j_weak (l := [some (.ref v0), some (.int v1), some (.int v2), none]) (And.intro (Or.inr rfl) (And.intro (Or.inr rfl) (And.intro (Or.inr rfl) (And.intro (Or.inl rfl) True.intro)))) (hX _ _ h)))

set_option maxRecDepth 100000 in
theorem b_Mo_count {fo : Option Nat} {d : Nat} (hd : 7 ≤ d + 1) {o : q_O} {σ' : q_H} (v0 : Nat) (v1 : Int32) (σ : q_H) : q_J (fun (r : Int32) (σ1 : q_H) => o = .inl (some (.int r)) ∧ σ' = σ1) (f_Mo_count v0 v1 σ) (q_G (q_rf fo) d m_Mo_count o σ' 0 [some (.ref v0), some (.int v1), none, none] [] σ) := by
  unfold f_Mo_count
  refine J_bind fun σ1 hσ1 => ?_
  refine J_cl fun x3 σ2 hσ2 => ?_
  refine q_J.step (fun g => j_aload_n rfl rfl (j_iconst (0 : Int32) rfl k32_0 (j_putf rfl rfl rfl rfl hσ1 (j_iload_n rfl rfl (j_iconst (0 : Int32) rfl k32_0 (j_bipush (7 : Int32) rfl kb_7 (j_s1 [.int v1, .int (0 : Int32), .int (7 : Int32)] [] rfl rfl rfl rfl rfl (t_Mo_within (by omega) hσ2) (g)))))))) ?_
  refine J_ite (fun h4 => ?_) (fun h4 => ?_)
  · exact J_some (fun h => j_if_f rfl (cc_ne_f h4) (j_iconst (-1 : Int32) rfl k32_m1 (j_iret rfl rfl h)))
  refine q_J.step (fun g => j_if_t rfl (cc_ne_t h4) (j_iload_n rfl rfl (j_iconst (3 : Int32) rfl k32_3 (g)))) ?_
  refine J_ite (fun h5 => ?_) (fun h5 => ?_)
  · refine J_bind fun w6 hw6 => ?_
    refine J_cl fun x8 σ7 hσ7 => ?_
    exact J_some (fun h => j_icmp_f rfl (cc_ne_f h5) (j_aload_n rfl rfl (j_v1 [.ref v0] [] rfl rfl rfl rfl rfl rfl hw6 (Or.inl rfl) (t_Mo_piecesOf (by omega) hσ7) (j_iret rfl rfl h))))
  refine q_J.step (fun g => j_icmp_t rfl (cc_ne_t h5) (j_iload_n rfl rfl (j_bipush (7 : Int32) rfl kb_7 (g)))) ?_
  refine J_ite (fun h9 => ?_) (fun h9 => ?_)
  · refine J_bind fun w10 hw10 => ?_
    refine J_cl fun x12 σ11 hσ11 => ?_
    exact J_some (fun h => j_icmp_f rfl (cc_ne_f h9) (j_aload_n rfl rfl (j_v1 [.ref v0] [] rfl rfl rfl rfl rfl rfl hw10 (Or.inl rfl) (t_Mo_ties (by omega) hσ11) (j_iret rfl rfl h))))
  refine J_sq (fun (t13 : Int32) (σ14 : q_H) => q_G (q_rf fo) d m_Mo_count o σ' 110 [some (.ref v0), some (.int v1), some (.int t13), none] [] σ14) (q_J.step (fun g => j_icmp_t rfl (cc_ne_t h9) (j_iconst (0 : Int32) rfl k32_0 (j_istore_n [some (.ref v0), some (.int v1), some (.int (0 : Int32)), none] rfl rfl (Or.inr rfl) rfl (j_iconst (0 : Int32) rfl k32_0 (j_istore_n [some (.ref v0), some (.int v1), some (.int (0 : Int32)), some (.int (0 : Int32))] rfl rfl (Or.inr rfl) rfl (g)))))) (l_Mo_count_L42 hd v0 v1 (fun _ _ h => h) q_FU (0 : Int32) (0 : Int32) σ2)) (fun t13 σ14 => ?_)
  refine q_J.step (fun g => j_iload_n rfl rfl (j_iconst (3 : Int32) rfl k32_3 (g))) ?_
  refine J_ite (fun h15 => ?_) (fun h15 => ?_)
  · exact J_some (fun h => j_icmp_f rfl (cc_ge_f h15) (j_iload_n rfl rfl (j_goto rfl (j_iret rfl rfl h))))
  refine q_J.step (fun g => j_icmp_t rfl (cc_ge_t h15) (j_iload_n rfl rfl (j_iconst (4 : Int32) rfl k32_4 (g)))) ?_
  refine J_ite (fun h16 => ?_) (fun h16 => ?_)
  · refine J_bind fun x17 hx17 => ?_
    exact J_some (fun h => j_icmp_f rfl (cc_ne_f h16) (j_aload_n rfl rfl (j_gfi rfl hx17 (j_goto rfl (j_iret rfl rfl h)))))
  refine q_J.step (fun g => j_icmp_t rfl (cc_ne_t h16) (j_iload_n rfl rfl (j_iconst (5 : Int32) rfl k32_5 (g)))) ?_
  refine J_ite (fun h18 => ?_) (fun h18 => ?_)
  · refine J_bind fun x19 hx19 => ?_
    refine J_bind fun x20 hx20 => ?_
    refine J_bind fun x21 hx21 => ?_
    refine J_bind fun x22 hx22 => ?_
    refine J_bind fun x23 hx23 => ?_
    refine J_bind fun x24 hx24 => ?_
    refine J_bind fun x25 hx25 => ?_
    refine J_bind fun x26 hx26 => ?_
    exact J_some (fun h => j_icmp_f rfl (cc_ne_f h18) (j_aload_n rfl rfl (j_gfr rfl hx19 (j_iconst (0 : Int32) rfl k32_0 (j_ial rfl hx20 (j_aload_n rfl rfl (j_gfr rfl hx21 (j_iconst (1 : Int32) rfl k32_1 (j_ial rfl hx22 (j_iadd rfl (j_aload_n rfl rfl (j_gfr rfl hx23 (j_iconst (2 : Int32) rfl k32_2 (j_ial rfl hx24 (j_iadd rfl (j_aload_n rfl rfl (j_gfr rfl hx25 (j_iconst (3 : Int32) rfl k32_3 (j_ial rfl hx26 (j_iadd rfl (j_goto rfl (j_iret rfl rfl h))))))))))))))))))))))
  refine J_bind fun x27 hx27 => ?_
  exact J_some (fun h => j_icmp_t rfl (cc_ne_t h18) (j_aload_n rfl rfl (j_gfi rfl hx27 (j_iret rfl rfl h))))
theorem t_Mo_count {fo : Option Nat} {d : Nat} (hd : 7 ≤ d) {v0 : Nat} {v1 : Int32} {σ σ1 : q_H} {r : Int32} (h : f_Mo_count v0 v1 σ = some (r, σ1)) : q_Rel (q_rf fo) q_Ms d 278 [.ref v0, .int v1] σ (.inl (some (.int r))) σ1 := by
  obtain ⟨d, rfl⟩ : ∃ d1, d = d1 + 1 := ⟨d - 1, by omega⟩
  exact q_Rel.of rfl rfl (b_Mo_count hd _ _ σ _ _ h ⟨rfl, rfl⟩)

set_option maxRecDepth 100000 in
theorem b_Mo_move {fo : Option Nat} {d : Nat} (hd : 8 ≤ d + 1) {o : q_O} {σ' : q_H} (v0 : Nat) (v1 : Int32) (v2 : Int32) (σ : q_H) : q_J (fun (r : Int32) (σ1 : q_H) => o = .inl (some (.int r)) ∧ σ' = σ1) (f_Mo_move v0 v1 v2 σ) (q_G (q_rf fo) d m_Mo_move o σ' 0 [some (.ref v0), some (.int v1), some (.int v2)] [] σ) := by
  unfold f_Mo_move
  refine J_cl fun x2 σ1 hσ1 => ?_
  refine q_J.step (fun g => j_aload_n rfl rfl (j_iload_n rfl rfl (j_iconst (0 : Int32) rfl k32_0 (j_iconst (1 : Int32) rfl k32_1 (j_s1 [.int v2, .int (0 : Int32), .int (1 : Int32)] [.ref v0] rfl rfl rfl rfl rfl (t_Mo_within (by omega) hσ1) (g)))))) ?_
  refine J_ite (fun h3 => ?_) (fun h3 => ?_)
  · refine J_bind fun σ4 hσ4 => ?_
    refine J_bind fun x5 hx5 => ?_
    refine q_J.step (fun g => j_if_t rfl (cc_eq_t h3) (j_iconst (1 : Int32) rfl k32_1 (j_putf rfl rfl rfl rfl hσ4 (j_aload_n rfl rfl (j_gfi rfl hx5 (j_iconst (1 : Int32) rfl k32_1 (g))))))) ?_
    refine J_ite (fun h6 => ?_) (fun h6 => ?_)
    · exact J_some (fun h => j_icmp_f rfl (cc_ne_f h6) (j_iconst (0 : Int32) rfl k32_0 (j_goto rfl (j_iret rfl rfl h))))
    refine J_bind fun x7 hx7 => ?_
    refine J_bind fun x8 hx8 => ?_
    refine J_cl fun x10 σ9 hσ9 => ?_
    exact J_some (fun h => j_icmp_t rfl (cc_ne_t h6) (j_aload_n rfl rfl (j_gfl rfl hx7 (j_aload_n rfl rfl (j_gfl rfl hx8 (j_iload_n rfl rfl (j_s1 [.long x7, .long x8, .int v2] [] rfl rfl rfl rfl rfl (t_Mo_lowest (by omega) hσ9) (j_l2i rfl (j_iret rfl rfl h)))))))))
  refine J_bind fun w11 hw11 => ?_
  refine J_cl fun x13 σ12 hσ12 => ?_
  refine q_J.step (fun g => j_if_f rfl (cc_eq_f h3) (j_aload_n rfl rfl (j_iload_n rfl rfl (j_v1 [.ref v0, .int v1] [.ref v0] rfl rfl rfl rfl rfl rfl hw11 (Or.inl rfl) (t_Mo_moves (by omega) hσ12) (g))))) ?_
  refine J_sq (fun (t15 : Int32) (σ16 : q_H) => q_G (q_rf fo) d m_Mo_move o σ' 23 [some (.ref v0), none, some (.int v2)] [.int t15, .ref v0] σ16) ?_ (fun t15 σ16 => ?_)
  · refine J_ite (fun h14 => ?_) (fun h14 => ?_)
    · exact J_some (fun h => j_if_t rfl (cc_eq_t h14) (j_iconst (1 : Int32) rfl k32_1 (j_weak (l := [some (.ref v0), none, some (.int v2)]) (And.intro (Or.inr rfl) (And.intro (Or.inl rfl) (And.intro (Or.inr rfl) True.intro))) (h))))
    exact J_some (fun h => j_if_f rfl (cc_eq_f h14) (j_iconst (0 : Int32) rfl k32_0 (j_goto rfl (j_weak (l := [some (.ref v0), none, some (.int v2)]) (And.intro (Or.inr rfl) (And.intro (Or.inl rfl) (And.intro (Or.inr rfl) True.intro))) (h)))))
  refine J_bind fun σ17 hσ17 => ?_
  refine J_bind fun x18 hx18 => ?_
  refine q_J.step (fun g => j_putf rfl rfl rfl rfl hσ17 (j_aload_n rfl rfl (j_gfi rfl hx18 (j_iconst (1 : Int32) rfl k32_1 (g))))) ?_
  refine J_ite (fun h19 => ?_) (fun h19 => ?_)
  · exact J_some (fun h => j_icmp_f rfl (cc_ne_f h19) (j_iconst (0 : Int32) rfl k32_0 (j_goto rfl (j_iret rfl rfl h))))
  refine J_bind fun x20 hx20 => ?_
  refine J_bind fun x21 hx21 => ?_
  refine J_cl fun x23 σ22 hσ22 => ?_
  exact J_some (fun h => j_icmp_t rfl (cc_ne_t h19) (j_aload_n rfl rfl (j_gfl rfl hx20 (j_aload_n rfl rfl (j_gfl rfl hx21 (j_iload_n rfl rfl (j_s1 [.long x20, .long x21, .int v2] [] rfl rfl rfl rfl rfl (t_Mo_lowest (by omega) hσ22) (j_l2i rfl (j_iret rfl rfl h)))))))))
theorem t_Mo_move {fo : Option Nat} {d : Nat} (hd : 8 ≤ d) {v0 : Nat} {v1 : Int32} {v2 : Int32} {σ σ1 : q_H} {r : Int32} (h : f_Mo_move v0 v1 v2 σ = some (r, σ1)) : q_Rel (q_rf fo) q_Ms d 212 [.ref v0, .int v1, .int v2] σ (.inl (some (.int r))) σ1 := by
  obtain ⟨d, rfl⟩ : ∃ d1, d = d1 + 1 := ⟨d - 1, by omega⟩
  exact q_Rel.of rfl rfl (b_Mo_move hd _ _ _ σ _ _ h ⟨rfl, rfl⟩)

set_option maxRecDepth 100000 in
theorem l_Mo_mover_L15 {fo : Option Nat} {d : Nat} (hd : 8 ≤ d + 1) {o : q_O} {σ' : q_H} {E : (Int32) → q_H → Prop} (v0 : Nat) (hX : ∀ (t : Int32) σ1, E (t) σ1 → q_G (q_rf fo) d m_Mo_mover o σ' 97 [none, some (.int t), none, none, none, none, none, none, none] [] σ1)  : ∀ (n : Nat) (v1 : Int32) (v2 : Int64) (v4 : Int64) (v6 : Int32) (σ : q_H), q_J E (f_Mo_mover_L15 v0 n v1 v2 v4 v6 σ) (q_G (q_rf fo) d m_Mo_mover o σ' 15 [some (.ref v0), some (.int v1), some (.long v2), none, some (.long v4), none, some (.int v6), none, none] [] σ)
  | 0, v1, v2, v4, v6, σ => J_none
  | n + 1, v1, v2, v4, v6, σ => by
    unfold f_Mo_mover_L15
    refine q_J.step (fun g => j_iload rfl rfl (j_bipush (24 : Int32) rfl kb_24 (g))) ?_
    refine J_ite (fun h1 => ?_) (fun h1 => ?_)
    · refine J_bind fun w2 hw2 => ?_
      refine J_cl fun x4 σ3 hσ3 => ?_
      refine q_J.step (fun g => j_icmp_f rfl (cc_ge_f h1) (j_aload_n rfl rfl (j_iload rfl rfl (j_v1 [.ref v0, .int v6] [] rfl rfl rfl rfl rfl rfl hw2 (Or.inl rfl) (t_Mo_moves (by omega) hσ3) (g))))) ?_
      refine J_ite (fun h5 => ?_) (fun h5 => ?_)
      · exact q_J.step (fun g => j_if_f rfl (cc_ne_f h5) (j_goto rfl (j_iinc [some (.ref v0), some (.int v1), some (.long v2), none, some (.long v4), none, some (.int (v6 + (1 : Int32))), none, none] (v6 + (1 : Int32)) rfl rfl (by rw [k32_1]) (Or.inr True.intro) rfl (j_goto rfl (g))))) (l_Mo_mover_L15 hd v0 hX n v1 v2 v4 (v6 + (1 : Int32)) σ3)
      refine J_bind fun x6 hx6 => ?_
      refine q_J.step (fun g => j_if_t rfl (cc_ne_t h5) (j_aload_n rfl rfl (j_gfl rfl hx6 (j_lconst (0 : Int64) rfl kl_0 (j_lcmp rfl (g)))))) ?_
      refine J_sq (fun (t10 : Int64) (σ11 : q_H) => q_G (q_rf fo) d m_Mo_mover o σ' 55 [some (.ref v0), some (.int v1), some (.long v2), none, some (.long v4), none, some (.int v6), none, none] [.long t10] σ11) ?_ (fun t10 σ11 => ?_)
      · refine J_ite (fun h7 => ?_) (fun h7 => ?_)
        · refine J_bind fun x8 hx8 => ?_
          exact J_some (fun h => j_if_f rfl (lc_ge_f h7) (j_aload_n rfl rfl (j_gfl rfl hx8 (j_lneg rfl (j_goto rfl (h))))))
        refine J_bind fun x9 hx9 => ?_
        exact J_some (fun h => j_if_t rfl (lc_ge_t h7) (j_aload_n rfl rfl (j_gfl rfl hx9 (h))))
      refine q_J.step (fun g => j_lstore [some (.ref v0), some (.int v1), some (.long v2), none, some (.long v4), none, some (.int v6), some (.long t10), none] rfl rfl (Or.inr rfl) rfl (j_iload_n rfl rfl (g))) ?_
      refine J_ite (fun h12 => ?_) (fun h12 => ?_)
      · refine J_bind fun x13 hx13 => ?_
        exact q_J.step (fun g => j_if_t rfl (cc_lt_t h12) (j_iload rfl rfl (j_istore_n [some (.ref v0), some (.int v6), some (.long v2), none, some (.long v4), none, some (.int v6), some (.long t10), none] rfl rfl (Or.inr rfl) rfl (j_lload rfl rfl (j_lstore_n [some (.ref v0), some (.int v6), some (.long t10), none, some (.long v4), none, some (.int v6), some (.long t10), none] rfl rfl (Or.inr rfl) rfl (j_aload_n rfl rfl (j_gfl rfl hx13 (j_lstore [some (.ref v0), some (.int v6), some (.long t10), none, some (.long x13), none, some (.int v6), some (.long t10), none] rfl rfl (Or.inr True.intro) rfl (j_iinc [some (.ref v0), some (.int v6), some (.long t10), none, some (.long x13), none, some (.int (v6 + (1 : Int32))), some (.long t10), none] (v6 + (1 : Int32)) rfl rfl (by rw [k32_1]) (Or.inr True.intro) rfl (j_goto rfl (j_weak (l := [some (.ref v0), some (.int v6), some (.long t10), none, some (.long x13), none, some (.int (v6 + (1 : Int32))), none, none]) (And.intro (Or.inr rfl) (And.intro (Or.inr rfl) (And.intro (Or.inr rfl) (And.intro (Or.inr rfl) (And.intro (Or.inr rfl) (And.intro (Or.inr rfl) (And.intro (Or.inr rfl) (And.intro (Or.inl rfl) (And.intro (Or.inr rfl) True.intro))))))))) (g)))))))))))) (l_Mo_mover_L15 hd v0 hX n v6 t10 x13 (v6 + (1 : Int32)) σ11)
      refine J_bind fun x14 hx14 => ?_
      refine q_J.step (fun g => j_if_f rfl (cc_lt_f h12) (j_lload rfl rfl (j_lload rfl rfl (j_lmul rfl (j_lload_n rfl rfl (j_aload_n rfl rfl (j_gfl rfl hx14 (j_lmul rfl (j_lcmp rfl (g)))))))))) ?_
      refine J_ite (fun h15 => ?_) (fun h15 => ?_)
      · refine J_bind fun x16 hx16 => ?_
        exact q_J.step (fun g => j_if_t rfl (lc_gt_t h15) (j_iload rfl rfl (j_istore_n [some (.ref v0), some (.int v6), some (.long v2), none, some (.long v4), none, some (.int v6), some (.long t10), none] rfl rfl (Or.inr rfl) rfl (j_lload rfl rfl (j_lstore_n [some (.ref v0), some (.int v6), some (.long t10), none, some (.long v4), none, some (.int v6), some (.long t10), none] rfl rfl (Or.inr rfl) rfl (j_aload_n rfl rfl (j_gfl rfl hx16 (j_lstore [some (.ref v0), some (.int v6), some (.long t10), none, some (.long x16), none, some (.int v6), some (.long t10), none] rfl rfl (Or.inr True.intro) rfl (j_iinc [some (.ref v0), some (.int v6), some (.long t10), none, some (.long x16), none, some (.int (v6 + (1 : Int32))), some (.long t10), none] (v6 + (1 : Int32)) rfl rfl (by rw [k32_1]) (Or.inr True.intro) rfl (j_goto rfl (j_weak (l := [some (.ref v0), some (.int v6), some (.long t10), none, some (.long x16), none, some (.int (v6 + (1 : Int32))), none, none]) (And.intro (Or.inr rfl) (And.intro (Or.inr rfl) (And.intro (Or.inr rfl) (And.intro (Or.inr rfl) (And.intro (Or.inr rfl) (And.intro (Or.inr rfl) (And.intro (Or.inr rfl) (And.intro (Or.inl rfl) (And.intro (Or.inr rfl) True.intro))))))))) (g)))))))))))) (l_Mo_mover_L15 hd v0 hX n v6 t10 x16 (v6 + (1 : Int32)) σ11)
      exact q_J.step (fun g => j_if_f rfl (lc_gt_f h15) (j_goto rfl (j_iinc [some (.ref v0), some (.int v1), some (.long v2), none, some (.long v4), none, some (.int (v6 + (1 : Int32))), some (.long t10), none] (v6 + (1 : Int32)) rfl rfl (by rw [k32_1]) (Or.inr True.intro) rfl (j_goto rfl (j_weak (l := [some (.ref v0), some (.int v1), some (.long v2), none, some (.long v4), none, some (.int (v6 + (1 : Int32))), none, none]) (And.intro (Or.inr rfl) (And.intro (Or.inr rfl) (And.intro (Or.inr rfl) (And.intro (Or.inr rfl) (And.intro (Or.inr rfl) (And.intro (Or.inr rfl) (And.intro (Or.inr rfl) (And.intro (Or.inl rfl) (And.intro (Or.inr rfl) True.intro))))))))) (g)))))) (l_Mo_mover_L15 hd v0 hX n v1 v2 v4 (v6 + (1 : Int32)) σ11)
    exact J_some (fun h => j_icmp_t rfl (cc_ge_t h1) (j_weak (l := [none, some (.int v1), none, none, none, none, none, none, none]) (And.intro (Or.inl rfl) (And.intro (Or.inr rfl) (And.intro (Or.inl rfl) (And.intro (Or.inr rfl) (And.intro (Or.inl rfl) (And.intro (Or.inr rfl) (And.intro (Or.inl rfl) (And.intro (Or.inr rfl) (And.intro (Or.inr rfl) True.intro))))))))) (hX _ _ h)))

set_option maxRecDepth 100000 in
theorem b_Mo_mover {fo : Option Nat} {d : Nat} (hd : 8 ≤ d + 1) {o : q_O} {σ' : q_H} (v0 : Nat) (σ : q_H) : q_J (fun (r : Int32) (σ1 : q_H) => o = .inl (some (.int r)) ∧ σ' = σ1) (f_Mo_mover v0 σ) (q_G (q_rf fo) d m_Mo_mover o σ' 0 [some (.ref v0), none, none, none, none, none, none, none, none] [] σ) := by
  unfold f_Mo_mover
  refine J_bind fun σ1 hσ1 => ?_
  refine J_sq (fun (t2 : Int32) (σ3 : q_H) => q_G (q_rf fo) d m_Mo_mover o σ' 97 [none, some (.int t2), none, none, none, none, none, none, none] [] σ3) (q_J.step (fun g => j_aload_n rfl rfl (j_iconst (0 : Int32) rfl k32_0 (j_putf rfl rfl rfl rfl hσ1 (j_iconst (-1 : Int32) rfl k32_m1 (j_istore_n [some (.ref v0), some (.int (-1 : Int32)), none, none, none, none, none, none, none] rfl rfl (Or.inr rfl) rfl (j_lconst (0 : Int64) rfl kl_0 (j_lstore_n [some (.ref v0), some (.int (-1 : Int32)), some (.long (0 : Int64)), none, none, none, none, none, none] rfl rfl (Or.inr rfl) rfl (j_lconst (1 : Int64) rfl kl_1 (j_lstore [some (.ref v0), some (.int (-1 : Int32)), some (.long (0 : Int64)), none, some (.long (1 : Int64)), none, none, none, none] rfl rfl (Or.inr True.intro) rfl (j_iconst (0 : Int32) rfl k32_0 (j_istore [some (.ref v0), some (.int (-1 : Int32)), some (.long (0 : Int64)), none, some (.long (1 : Int64)), none, some (.int (0 : Int32)), none, none] rfl rfl (Or.inr True.intro) rfl (g)))))))))))) (l_Mo_mover_L15 hd v0 (fun _ _ h => h) q_FU (-1 : Int32) (0 : Int64) (1 : Int64) (0 : Int32) σ1)) (fun t2 σ3 => ?_)
  exact J_some (fun h => j_iload_n rfl rfl (j_iret rfl rfl h))
theorem t_Mo_mover {fo : Option Nat} {d : Nat} (hd : 8 ≤ d) {v0 : Nat} {σ σ1 : q_H} {r : Int32} (h : f_Mo_mover v0 σ = some (r, σ1)) : q_Rel (q_rf fo) q_Ms d 214 [.ref v0] σ (.inl (some (.int r))) σ1 := by
  obtain ⟨d, rfl⟩ : ∃ d1, d = d1 + 1 := ⟨d - 1, by omega⟩
  exact q_Rel.of rfl rfl (b_Mo_mover hd _ σ _ _ h ⟨rfl, rfl⟩)

set_option maxRecDepth 100000 in
theorem l_Mo_leftAll_L9 {fo : Option Nat} {d : Nat} (hd : 8 ≤ d + 1) {o : q_O} {σ' : q_H} {E : (Int32) → q_H → Prop} (v0 : Nat) (v1 : Int32) (v2 : Int32) (hX : ∀ (t : Int32) σ1, E (t) σ1 → q_G (q_rf fo) d m_Mo_leftAll o σ' 46 [none, none, none, some (.int t), none] [] σ1)  : ∀ (n : Nat) (v3 : Int32) (v4 : Int32) (σ : q_H), q_J E (f_Mo_leftAll_L9 v0 v1 v2 n v3 v4 σ) (q_G (q_rf fo) d m_Mo_leftAll o σ' 9 [some (.ref v0), some (.int v1), some (.int v2), some (.int v3), some (.int v4)] [] σ)
  | 0, v3, v4, σ => J_none
  | n + 1, v3, v4, σ => by
    unfold f_Mo_leftAll_L9
    refine q_J.step (fun g => j_iload rfl rfl (j_bipush (24 : Int32) rfl kb_24 (g))) ?_
    refine J_ite (fun h1 => ?_) (fun h1 => ?_)
    · refine J_bind fun w2 hw2 => ?_
      refine J_cl fun x4 σ3 hσ3 => ?_
      refine q_J.step (fun g => j_icmp_f rfl (cc_ge_f h1) (j_iload_n rfl rfl (j_aload_n rfl rfl (j_iload rfl rfl (j_v1 [.ref v0, .int v4] [.int v3] rfl rfl rfl rfl rfl rfl hw2 (Or.inl rfl) (t_Mo_isThere (by omega) hσ3) (g)))))) ?_
      refine J_ite (fun h5 => ?_) (fun h5 => ?_)
      · exact q_J.step (fun g => j_if_t rfl (cc_eq_t h5) (j_iconst (0 : Int32) rfl k32_0 (j_iadd rfl (j_istore_n [some (.ref v0), some (.int v1), some (.int v2), some (.int (v3 + (0 : Int32))), some (.int v4)] rfl rfl (Or.inr rfl) rfl (j_iinc [some (.ref v0), some (.int v1), some (.int v2), some (.int (v3 + (0 : Int32))), some (.int (v4 + (1 : Int32)))] (v4 + (1 : Int32)) rfl rfl (by rw [k32_1]) (Or.inr rfl) rfl (j_goto rfl (g))))))) (l_Mo_leftAll_L9 hd v0 v1 v2 hX n (v3 + (0 : Int32)) (v4 + (1 : Int32)) σ3)
      refine J_bind fun w6 hw6 => ?_
      refine J_cl fun x8 σ7 hσ7 => ?_
      exact q_J.step (fun g => j_if_f rfl (cc_eq_f h5) (j_aload_n rfl rfl (j_iload rfl rfl (j_iload_n rfl rfl (j_iload_n rfl rfl (j_v1 [.ref v0, .int v4, .int v1, .int v2] [.int v3] rfl rfl rfl rfl rfl rfl hw6 (Or.inl rfl) (t_Mo_leftIn (by omega) hσ7) (j_goto rfl (j_iadd rfl (j_istore_n [some (.ref v0), some (.int v1), some (.int v2), some (.int (v3 + x8)), some (.int v4)] rfl rfl (Or.inr rfl) rfl (j_iinc [some (.ref v0), some (.int v1), some (.int v2), some (.int (v3 + x8)), some (.int (v4 + (1 : Int32)))] (v4 + (1 : Int32)) rfl rfl (by rw [k32_1]) (Or.inr rfl) rfl (j_goto rfl (g)))))))))))) (l_Mo_leftAll_L9 hd v0 v1 v2 hX n (v3 + x8) (v4 + (1 : Int32)) σ7)
    exact J_some (fun h => j_icmp_t rfl (cc_ge_t h1) (j_weak (l := [none, none, none, some (.int v3), none]) (And.intro (Or.inl rfl) (And.intro (Or.inl rfl) (And.intro (Or.inl rfl) (And.intro (Or.inr rfl) (And.intro (Or.inl rfl) True.intro))))) (hX _ _ h)))

set_option maxRecDepth 100000 in
theorem b_Mo_leftAll {fo : Option Nat} {d : Nat} (hd : 8 ≤ d + 1) {o : q_O} {σ' : q_H} (v0 : Nat) (v1 : Int32) (v2 : Int32) (σ : q_H) : q_J (fun (r : Int32) (σ1 : q_H) => o = .inl (some (.int r)) ∧ σ' = σ1) (f_Mo_leftAll v0 v1 v2 σ) (q_G (q_rf fo) d m_Mo_leftAll o σ' 0 [some (.ref v0), some (.int v1), some (.int v2), none, none] [] σ) := by
  unfold f_Mo_leftAll
  refine J_bind fun w1 hw1 => ?_
  refine J_cl fun _ σ2 hσ2 => ?_
  refine J_sq (fun (t4 : Int32) (σ5 : q_H) => q_G (q_rf fo) d m_Mo_leftAll o σ' 46 [none, none, none, some (.int t4), none] [] σ5) (q_J.step (fun g => j_aload_n rfl rfl (j_v0 [.ref v0] [] rfl rfl rfl rfl rfl rfl hw1 (Or.inl rfl) (t_Mo_houses (by omega) hσ2) (j_iconst (0 : Int32) rfl k32_0 (j_istore_n [some (.ref v0), some (.int v1), some (.int v2), some (.int (0 : Int32)), none] rfl rfl (Or.inr rfl) rfl (j_iconst (0 : Int32) rfl k32_0 (j_istore [some (.ref v0), some (.int v1), some (.int v2), some (.int (0 : Int32)), some (.int (0 : Int32))] rfl rfl (Or.inr rfl) rfl (g))))))) (l_Mo_leftAll_L9 hd v0 v1 v2 (fun _ _ h => h) q_FU (0 : Int32) (0 : Int32) σ2)) (fun t4 σ5 => ?_)
  exact J_some (fun h => j_iload_n rfl rfl (j_iret rfl rfl h))
theorem t_Mo_leftAll {fo : Option Nat} {d : Nat} (hd : 8 ≤ d) {v0 : Nat} {v1 : Int32} {v2 : Int32} {σ σ1 : q_H} {r : Int32} (h : f_Mo_leftAll v0 v1 v2 σ = some (r, σ1)) : q_Rel (q_rf fo) q_Ms d 229 [.ref v0, .int v1, .int v2] σ (.inl (some (.int r))) σ1 := by
  obtain ⟨d, rfl⟩ : ∃ d1, d = d1 + 1 := ⟨d - 1, by omega⟩
  exact q_Rel.of rfl rfl (b_Mo_leftAll hd _ _ _ σ _ _ h ⟨rfl, rfl⟩)

set_option maxRecDepth 100000 in
theorem l_Mo_readings_L51 {fo : Option Nat} {d : Nat} (hd : 8 ≤ d + 1) {o : q_O} {σ' : q_H} {E : (Int32) → q_H → Prop} (v0 : Nat) (v1 : Int32) (hX : ∀ (t : Int32) σ1, E (t) σ1 → q_G (q_rf fo) d m_Mo_readings o σ' 102 [some (.ref v0), some (.int v1), some (.int t), none] [] σ1)  : ∀ (n : Nat) (v2 : Int32) (v3 : Int32) (σ : q_H), q_J E (f_Mo_readings_L51 v0 v1 n v2 v3 σ) (q_G (q_rf fo) d m_Mo_readings o σ' 51 [some (.ref v0), some (.int v1), some (.int v2), some (.int v3)] [] σ)
  | 0, v2, v3, σ => J_none
  | n + 1, v2, v3, σ => by
    unfold f_Mo_readings_L51
    refine J_bind fun x1 hx1 => ?_
    refine q_J.step (fun g => j_iload_n rfl rfl (j_aload_n rfl rfl (j_gfi rfl hx1 (g)))) ?_
    refine J_ite (fun h2 => ?_) (fun h2 => ?_)
    · refine q_J.step (fun g => j_icmp_f rfl (cc_ge_f h2) (j_iload_n rfl rfl (j_iconst (4 : Int32) rfl k32_4 (g)))) ?_
      refine J_ite (fun h3 => ?_) (fun h3 => ?_)
      · refine J_bind fun w4 hw4 => ?_
        refine J_cl fun x6 σ5 hσ5 => ?_
        refine q_J.step (fun g => j_icmp_f rfl (cc_ge_f h3) (j_aload_n rfl rfl (j_iload_n rfl rfl (j_iload_n rfl rfl (j_v1 [.ref v0, .int v3, .int v2] [] rfl rfl rfl rfl rfl rfl hw4 (Or.inl rfl) (t_Mo_isLess (by omega) hσ5) (g)))))) ?_
        refine J_ite (fun h7 => ?_) (fun h7 => ?_)
        · exact q_J.step (fun g => j_if_t rfl (cc_eq_t h7) (j_iload_n rfl rfl (j_goto rfl (j_istore_n [some (.ref v0), some (.int v1), some (.int v2), some (.int v3)] rfl rfl (Or.inr rfl) rfl (j_iinc [some (.ref v0), some (.int v1), some (.int v2), some (.int (v3 + (1 : Int32)))] (v3 + (1 : Int32)) rfl rfl (by rw [k32_1]) (Or.inr rfl) rfl (j_goto rfl (g))))))) (l_Mo_readings_L51 hd v0 v1 hX n v2 (v3 + (1 : Int32)) σ5)
        exact q_J.step (fun g => j_if_f rfl (cc_eq_f h7) (j_iload_n rfl rfl (j_goto rfl (j_istore_n [some (.ref v0), some (.int v1), some (.int v3), some (.int v3)] rfl rfl (Or.inr rfl) rfl (j_iinc [some (.ref v0), some (.int v1), some (.int v3), some (.int (v3 + (1 : Int32)))] (v3 + (1 : Int32)) rfl rfl (by rw [k32_1]) (Or.inr rfl) rfl (j_goto rfl (g))))))) (l_Mo_readings_L51 hd v0 v1 hX n v3 (v3 + (1 : Int32)) σ5)
      refine J_bind fun w8 hw8 => ?_
      refine J_cl fun x10 σ9 hσ9 => ?_
      refine q_J.step (fun g => j_icmp_t rfl (cc_ge_t h3) (j_aload_n rfl rfl (j_iload_n rfl rfl (j_iload_n rfl rfl (j_v1 [.ref v0, .int v2, .int v3] [] rfl rfl rfl rfl rfl rfl hw8 (Or.inl rfl) (t_Mo_isLess (by omega) hσ9) (g)))))) ?_
      refine J_ite (fun h11 => ?_) (fun h11 => ?_)
      · exact q_J.step (fun g => j_if_t rfl (cc_eq_t h11) (j_iload_n rfl rfl (j_istore_n [some (.ref v0), some (.int v1), some (.int v2), some (.int v3)] rfl rfl (Or.inr rfl) rfl (j_iinc [some (.ref v0), some (.int v1), some (.int v2), some (.int (v3 + (1 : Int32)))] (v3 + (1 : Int32)) rfl rfl (by rw [k32_1]) (Or.inr rfl) rfl (j_goto rfl (g)))))) (l_Mo_readings_L51 hd v0 v1 hX n v2 (v3 + (1 : Int32)) σ9)
      exact q_J.step (fun g => j_if_f rfl (cc_eq_f h11) (j_iload_n rfl rfl (j_goto rfl (j_istore_n [some (.ref v0), some (.int v1), some (.int v3), some (.int v3)] rfl rfl (Or.inr rfl) rfl (j_iinc [some (.ref v0), some (.int v1), some (.int v3), some (.int (v3 + (1 : Int32)))] (v3 + (1 : Int32)) rfl rfl (by rw [k32_1]) (Or.inr rfl) rfl (j_goto rfl (g))))))) (l_Mo_readings_L51 hd v0 v1 hX n v3 (v3 + (1 : Int32)) σ9)
    exact J_some (fun h => j_icmp_t rfl (cc_ge_t h2) (j_weak (l := [some (.ref v0), some (.int v1), some (.int v2), none]) (And.intro (Or.inr rfl) (And.intro (Or.inr rfl) (And.intro (Or.inr rfl) (And.intro (Or.inl rfl) True.intro)))) (hX _ _ h)))

set_option maxRecDepth 100000 in
theorem b_Mo_readings {fo : Option Nat} {d : Nat} (hd : 8 ≤ d + 1) {o : q_O} {σ' : q_H} (v0 : Nat) (v1 : Int32) (σ : q_H) : q_J (fun (r : Int32) (σ1 : q_H) => o = .inl (some (.int r)) ∧ σ' = σ1) (f_Mo_readings v0 v1 σ) (q_G (q_rf fo) d m_Mo_readings o σ' 0 [some (.ref v0), some (.int v1), none, none] [] σ) := by
  unfold f_Mo_readings
  refine J_bind fun σ1 hσ1 => ?_
  refine J_cl fun x3 σ2 hσ2 => ?_
  refine q_J.step (fun g => j_aload_n rfl rfl (j_iconst (0 : Int32) rfl k32_0 (j_putf rfl rfl rfl rfl hσ1 (j_iload_n rfl rfl (j_iconst (0 : Int32) rfl k32_0 (j_bipush (6 : Int32) rfl kb_6 (j_s1 [.int v1, .int (0 : Int32), .int (6 : Int32)] [] rfl rfl rfl rfl rfl (t_Mo_within (by omega) hσ2) (g)))))))) ?_
  refine J_ite (fun h4 => ?_) (fun h4 => ?_)
  · exact J_some (fun h => j_if_f rfl (cc_ne_f h4) (j_iconst (-1 : Int32) rfl k32_m1 (j_iret rfl rfl h)))
  refine J_bind fun w5 hw5 => ?_
  refine J_cl fun _ σ6 hσ6 => ?_
  refine q_J.step (fun g => j_if_t rfl (cc_ne_t h4) (j_aload_n rfl rfl (j_v0 [.ref v0] [] rfl rfl rfl rfl rfl rfl hw5 (Or.inl rfl) (t_Mo_lays (by omega) hσ6) (j_iload_n rfl rfl (g))))) ?_
  refine J_ite (fun h8 => ?_) (fun h8 => ?_)
  · refine q_J.step (fun g => j_if_t rfl (cc_eq_t h8) (j_iload_n rfl rfl (g))) ?_
    refine J_ite (fun h9 => ?_) (fun h9 => ?_)
    · refine J_bind fun x10 hx10 => ?_
      exact J_some (fun h => j_if_f rfl (cc_ne_f h9) (j_iconst (0 : Int32) rfl k32_0 (j_aload_n rfl rfl (j_gfi rfl hx10 (j_iadd rfl (j_goto rfl (j_iret rfl rfl h)))))))
    exact J_some (fun h => j_if_t rfl (cc_ne_t h9) (j_iconst (-1 : Int32) rfl k32_m1 (j_iret rfl rfl h)))
  refine J_bind fun x11 hx11 => ?_
  refine q_J.step (fun g => j_if_f rfl (cc_eq_f h8) (j_aload_n rfl rfl (j_gfi rfl hx11 (g)))) ?_
  refine J_ite (fun h12 => ?_) (fun h12 => ?_)
  · refine q_J.step (fun g => j_if_f rfl (cc_ne_f h12) (j_iload_n rfl rfl (g))) ?_
    refine J_ite (fun h13 => ?_) (fun h13 => ?_)
    · refine J_bind fun x14 hx14 => ?_
      exact J_some (fun h => j_if_f rfl (cc_ne_f h13) (j_iconst (0 : Int32) rfl k32_0 (j_aload_n rfl rfl (j_gfi rfl hx14 (j_iadd rfl (j_goto rfl (j_iret rfl rfl h)))))))
    exact J_some (fun h => j_if_t rfl (cc_ne_t h13) (j_iconst (-1 : Int32) rfl k32_m1 (j_iret rfl rfl h)))
  refine J_sq (fun (t15 : Int32) (σ16 : q_H) => q_G (q_rf fo) d m_Mo_readings o σ' 102 [some (.ref v0), some (.int v1), some (.int t15), none] [] σ16) (q_J.step (fun g => j_if_t rfl (cc_ne_t h12) (j_iconst (0 : Int32) rfl k32_0 (j_istore_n [some (.ref v0), some (.int v1), some (.int (0 : Int32)), none] rfl rfl (Or.inr rfl) rfl (j_iconst (1 : Int32) rfl k32_1 (j_istore_n [some (.ref v0), some (.int v1), some (.int (0 : Int32)), some (.int (1 : Int32))] rfl rfl (Or.inr rfl) rfl (g)))))) (l_Mo_readings_L51 hd v0 v1 (fun _ _ h => h) q_FU (0 : Int32) (1 : Int32) σ6)) (fun t15 σ16 => ?_)
  refine q_J.step (fun g => j_iload_n rfl rfl (j_iconst (3 : Int32) rfl k32_3 (j_irem rfl (by decide) (g)))) ?_
  refine J_ite (fun h17 => ?_) (fun h17 => ?_)
  · exact J_some (fun h => j_if_f rfl (cc_ne_f h17) (j_iload_n rfl rfl (j_goto rfl (j_iret rfl rfl h))))
  refine J_bind fun x18 hx18 => ?_
  refine J_bind fun x19 hx19 => ?_
  refine J_bind fun x20 hx20 => ?_
  refine J_bind fun x21 hx21 => ?_
  refine J_cl fun x23 σ22 hσ22 => ?_
  exact J_some (fun h => j_if_t rfl (cc_ne_t h17) (j_aload_n rfl rfl (j_gfr rfl hx18 (j_iload_n rfl rfl (j_ial rfl hx19 (j_i2l rfl (j_aload_n rfl rfl (j_gfr rfl hx20 (j_iload_n rfl rfl (j_ial rfl hx21 (j_i2l rfl (j_iload_n rfl rfl (j_iconst (1 : Int32) rfl k32_1 (j_isub rfl (j_iconst (3 : Int32) rfl k32_3 (j_irem rfl (by decide) (j_s1 [.long x19.toInt64, .long x21.toInt64, .int ((v1 - (1 : Int32)) - (v1 - (1 : Int32)) / (3 : Int32) * (3 : Int32))] [] rfl rfl rfl rfl rfl (t_Mo_lowest (by omega) hσ22) (j_l2i rfl (j_iret rfl rfl h)))))))))))))))))))
theorem t_Mo_readings {fo : Option Nat} {d : Nat} (hd : 8 ≤ d) {v0 : Nat} {v1 : Int32} {σ σ1 : q_H} {r : Int32} (h : f_Mo_readings v0 v1 σ = some (r, σ1)) : q_Rel (q_rf fo) q_Ms d 269 [.ref v0, .int v1] σ (.inl (some (.int r))) σ1 := by
  obtain ⟨d, rfl⟩ : ∃ d1, d = d1 + 1 := ⟨d - 1, by omega⟩
  exact q_Rel.of rfl rfl (b_Mo_readings hd _ _ σ _ _ h ⟨rfl, rfl⟩)

set_option maxRecDepth 100000 in
theorem b_Mo_reading {fo : Option Nat} {d : Nat} (hd : 8 ≤ d + 1) {o : q_O} {σ' : q_H} (v0 : Nat) (v1 : Int32) (v2 : Int32) (σ : q_H) : q_J (fun (r : Int32) (σ1 : q_H) => o = .inl (some (.int r)) ∧ σ' = σ1) (f_Mo_reading v0 v1 v2 σ) (q_G (q_rf fo) d m_Mo_reading o σ' 0 [some (.ref v0), some (.int v1), some (.int v2)] [] σ) := by
  unfold f_Mo_reading
  refine J_bind fun σ1 hσ1 => ?_
  refine J_bind fun w2 hw2 => ?_
  refine J_cl fun _ σ3 hσ3 => ?_
  refine q_J.step (fun g => j_aload_n rfl rfl (j_iconst (0 : Int32) rfl k32_0 (j_putf rfl rfl rfl rfl hσ1 (j_aload_n rfl rfl (j_v0 [.ref v0] [] rfl rfl rfl rfl rfl rfl hw2 (Or.inl rfl) (t_Mo_lays (by omega) hσ3) (j_iload_n rfl rfl (g))))))) ?_
  refine J_ite (fun h5 => ?_) (fun h5 => ?_)
  · exact J_some (fun h => j_if_t rfl (cc_lt_t h5) (j_iconst (-1 : Int32) rfl k32_m1 (j_goto rfl (j_iret rfl rfl h))))
  refine J_bind fun x6 hx6 => ?_
  refine q_J.step (fun g => j_if_f rfl (cc_lt_f h5) (j_iload_n rfl rfl (j_aload_n rfl rfl (j_gfi rfl hx6 (g))))) ?_
  refine J_ite (fun h7 => ?_) (fun h7 => ?_)
  · refine J_cl fun x9 σ8 hσ8 => ?_
    refine q_J.step (fun g => j_icmp_f rfl (cc_ge_f h7) (j_iload_n rfl rfl (j_iconst (0 : Int32) rfl k32_0 (j_iconst (1 : Int32) rfl k32_1 (j_s1 [.int v2, .int (0 : Int32), .int (1 : Int32)] [] rfl rfl rfl rfl rfl (t_Mo_within (by omega) hσ8) (g)))))) ?_
    refine J_ite (fun h10 => ?_) (fun h10 => ?_)
    · exact J_some (fun h => j_if_f rfl (cc_ne_f h10) (j_iconst (-1 : Int32) rfl k32_m1 (j_goto rfl (j_iret rfl rfl h))))
    refine J_bind fun x11 hx11 => ?_
    refine J_bind fun x12 hx12 => ?_
    refine J_bind fun x13 hx13 => ?_
    refine J_bind fun x14 hx14 => ?_
    refine J_cl fun x16 σ15 hσ15 => ?_
    exact J_some (fun h => j_if_t rfl (cc_ne_t h10) (j_aload_n rfl rfl (j_gfr rfl hx11 (j_iload_n rfl rfl (j_ial rfl hx12 (j_i2l rfl (j_aload_n rfl rfl (j_gfr rfl hx13 (j_iload_n rfl rfl (j_ial rfl hx14 (j_i2l rfl (j_iload_n rfl rfl (j_s1 [.long x12.toInt64, .long x14.toInt64, .int v2] [] rfl rfl rfl rfl rfl (t_Mo_lowest (by omega) hσ15) (j_l2i rfl (j_iret rfl rfl h)))))))))))))))
  exact J_some (fun h => j_icmp_t rfl (cc_ge_t h7) (j_iconst (-1 : Int32) rfl k32_m1 (j_goto rfl (j_iret rfl rfl h))))
theorem t_Mo_reading {fo : Option Nat} {d : Nat} (hd : 8 ≤ d) {v0 : Nat} {v1 : Int32} {v2 : Int32} {σ σ1 : q_H} {r : Int32} (h : f_Mo_reading v0 v1 v2 σ = some (r, σ1)) : q_Rel (q_rf fo) q_Ms d 272 [.ref v0, .int v1, .int v2] σ (.inl (some (.int r))) σ1 := by
  obtain ⟨d, rfl⟩ : ∃ d1, d = d1 + 1 := ⟨d - 1, by omega⟩
  exact q_Rel.of rfl rfl (b_Mo_reading hd _ _ _ σ _ _ h ⟨rfl, rfl⟩)

set_option maxRecDepth 100000 in
theorem l_Mo_says_L43 {fo : Option Nat} {d : Nat} (hd : 8 ≤ d + 1) {o : q_O} {σ' : q_H} {E : (Int32) → q_H → Prop} (v0 : Nat) (v1 : Int32) (v2 : Int32) (hX : ∀ (t : Int32) σ1, E (t) σ1 → q_G (q_rf fo) d m_Mo_says o σ' 87 [some (.ref v0), none, none, some (.int t), none] [] σ1)  : ∀ (n : Nat) (v3 : Int32) (v4 : Int32) (σ : q_H), q_J E (f_Mo_says_L43 v0 v1 v2 n v3 v4 σ) (q_G (q_rf fo) d m_Mo_says o σ' 43 [some (.ref v0), some (.int v1), some (.int v2), some (.int v3), some (.int v4)] [] σ)
  | 0, v3, v4, σ => J_none
  | n + 1, v3, v4, σ => by
    unfold f_Mo_says_L43
    refine J_bind fun x1 hx1 => ?_
    refine q_J.step (fun g => j_iload rfl rfl (j_aload_n rfl rfl (j_gfi rfl hx1 (g)))) ?_
    refine J_ite (fun h2 => ?_) (fun h2 => ?_)
    · refine J_bind fun x3 hx3 => ?_
      refine J_bind fun x4 hx4 => ?_
      refine J_bind fun x5 hx5 => ?_
      refine J_bind fun x6 hx6 => ?_
      refine q_J.step (fun g => j_icmp_f rfl (cc_ge_f h2) (j_iload_n rfl rfl (j_aload_n rfl rfl (j_gfr rfl hx3 (j_iload rfl rfl (j_ial rfl hx4 (j_iload_n rfl rfl (j_imul rfl (j_iload_n rfl rfl (j_aload_n rfl rfl (j_gfr rfl hx5 (j_iload rfl rfl (j_ial rfl hx6 (j_imul rfl (g))))))))))))))) ?_
      refine J_ite (fun h7 => ?_) (fun h7 => ?_)
      · exact q_J.step (fun g => j_icmp_t rfl (cc_lt_t h7) (j_iconst (0 : Int32) rfl k32_0 (j_iadd rfl (j_istore_n [some (.ref v0), some (.int v1), some (.int v2), some (.int (v3 + (0 : Int32))), some (.int v4)] rfl rfl (Or.inr rfl) rfl (j_iinc [some (.ref v0), some (.int v1), some (.int v2), some (.int (v3 + (0 : Int32))), some (.int (v4 + (1 : Int32)))] (v4 + (1 : Int32)) rfl rfl (by rw [k32_1]) (Or.inr rfl) rfl (j_goto rfl (g))))))) (l_Mo_says_L43 hd v0 v1 v2 hX n (v3 + (0 : Int32)) (v4 + (1 : Int32)) σ)
      exact q_J.step (fun g => j_icmp_f rfl (cc_lt_f h7) (j_iconst (1 : Int32) rfl k32_1 (j_goto rfl (j_iadd rfl (j_istore_n [some (.ref v0), some (.int v1), some (.int v2), some (.int (v3 + (1 : Int32))), some (.int v4)] rfl rfl (Or.inr rfl) rfl (j_iinc [some (.ref v0), some (.int v1), some (.int v2), some (.int (v3 + (1 : Int32))), some (.int (v4 + (1 : Int32)))] (v4 + (1 : Int32)) rfl rfl (by rw [k32_1]) (Or.inr rfl) rfl (j_goto rfl (g)))))))) (l_Mo_says_L43 hd v0 v1 v2 hX n (v3 + (1 : Int32)) (v4 + (1 : Int32)) σ)
    exact J_some (fun h => j_icmp_t rfl (cc_ge_t h2) (j_weak (l := [some (.ref v0), none, none, some (.int v3), none]) (And.intro (Or.inr rfl) (And.intro (Or.inl rfl) (And.intro (Or.inl rfl) (And.intro (Or.inr rfl) (And.intro (Or.inl rfl) True.intro))))) (hX _ _ h)))

set_option maxRecDepth 100000 in
theorem b_Mo_says {fo : Option Nat} {d : Nat} (hd : 8 ≤ d + 1) {o : q_O} {σ' : q_H} (v0 : Nat) (v1 : Int32) (v2 : Int32) (σ : q_H) : q_J (fun (r : Int32) (σ1 : q_H) => o = .inl (some (.int r)) ∧ σ' = σ1) (f_Mo_says v0 v1 v2 σ) (q_G (q_rf fo) d m_Mo_says o σ' 0 [some (.ref v0), some (.int v1), some (.int v2), none, none] [] σ) := by
  unfold f_Mo_says
  refine J_bind fun σ1 hσ1 => ?_
  refine J_bind fun w2 hw2 => ?_
  refine J_cl fun _ σ3 hσ3 => ?_
  refine J_cl fun x6 σ5 hσ5 => ?_
  refine q_J.step (fun g => j_aload_n rfl rfl (j_iconst (0 : Int32) rfl k32_0 (j_putf rfl rfl rfl rfl hσ1 (j_aload_n rfl rfl (j_v0 [.ref v0] [] rfl rfl rfl rfl rfl rfl hw2 (Or.inl rfl) (t_Mo_lays (by omega) hσ3) (j_iload_n rfl rfl (j_iconst (0 : Int32) rfl k32_0 (j_bipush (99 : Int32) rfl kb_99 (j_s1 [.int v1, .int (0 : Int32), .int (99 : Int32)] [] rfl rfl rfl rfl rfl (t_Mo_within (by omega) hσ5) (g)))))))))) ?_
  refine J_ite (fun h7 => ?_) (fun h7 => ?_)
  · exact J_some (fun h => j_if_t rfl (cc_eq_t h7) (j_iconst (-1 : Int32) rfl k32_m1 (j_iret rfl rfl h)))
  refine J_cl fun x9 σ8 hσ8 => ?_
  refine q_J.step (fun g => j_if_f rfl (cc_eq_f h7) (j_iload_n rfl rfl (j_iconst (1 : Int32) rfl k32_1 (j_bipush (99 : Int32) rfl kb_99 (j_s1 [.int v2, .int (1 : Int32), .int (99 : Int32)] [] rfl rfl rfl rfl rfl (t_Mo_within (by omega) hσ8) (g)))))) ?_
  refine J_ite (fun h10 => ?_) (fun h10 => ?_)
  · exact J_some (fun h => j_if_t rfl (cc_eq_t h10) (j_iconst (-1 : Int32) rfl k32_m1 (j_iret rfl rfl h)))
  refine J_bind fun x11 hx11 => ?_
  refine q_J.step (fun g => j_if_f rfl (cc_eq_f h10) (j_aload_n rfl rfl (j_gfi rfl hx11 (g)))) ?_
  refine J_ite (fun h12 => ?_) (fun h12 => ?_)
  · exact J_some (fun h => j_if_f rfl (cc_ne_f h12) (j_iconst (-1 : Int32) rfl k32_m1 (j_iret rfl rfl h)))
  refine J_sq (fun (t13 : Int32) (σ14 : q_H) => q_G (q_rf fo) d m_Mo_says o σ' 87 [some (.ref v0), none, none, some (.int t13), none] [] σ14) (q_J.step (fun g => j_if_t rfl (cc_ne_t h12) (j_iconst (0 : Int32) rfl k32_0 (j_istore_n [some (.ref v0), some (.int v1), some (.int v2), some (.int (0 : Int32)), none] rfl rfl (Or.inr rfl) rfl (j_iconst (0 : Int32) rfl k32_0 (j_istore [some (.ref v0), some (.int v1), some (.int v2), some (.int (0 : Int32)), some (.int (0 : Int32))] rfl rfl (Or.inr rfl) rfl (g)))))) (l_Mo_says_L43 hd v0 v1 v2 (fun _ _ h => h) q_FU (0 : Int32) (0 : Int32) σ8)) (fun t13 σ14 => ?_)
  refine J_bind fun x15 hx15 => ?_
  refine q_J.step (fun g => j_iload_n rfl rfl (j_aload_n rfl rfl (j_gfi rfl hx15 (g)))) ?_
  refine J_ite (fun h16 => ?_) (fun h16 => ?_)
  · exact J_some (fun h => j_icmp_f rfl (cc_ne_f h16) (j_iconst (2 : Int32) rfl k32_2 (j_goto rfl (j_iret rfl rfl h))))
  refine q_J.step (fun g => j_icmp_t rfl (cc_ne_t h16) (j_iload_n rfl rfl (g))) ?_
  refine J_ite (fun h17 => ?_) (fun h17 => ?_)
  · exact J_some (fun h => j_if_f rfl (cc_le_f h17) (j_iconst (1 : Int32) rfl k32_1 (j_goto rfl (j_iret rfl rfl h))))
  exact J_some (fun h => j_if_t rfl (cc_le_t h17) (j_iconst (0 : Int32) rfl k32_0 (j_iret rfl rfl h)))
theorem t_Mo_says {fo : Option Nat} {d : Nat} (hd : 8 ≤ d) {v0 : Nat} {v1 : Int32} {v2 : Int32} {σ σ1 : q_H} {r : Int32} (h : f_Mo_says v0 v1 v2 σ = some (r, σ1)) : q_Rel (q_rf fo) q_Ms d 273 [.ref v0, .int v1, .int v2] σ (.inl (some (.int r))) σ1 := by
  obtain ⟨d, rfl⟩ : ∃ d1, d = d1 + 1 := ⟨d - 1, by omega⟩
  exact q_Rel.of rfl rfl (b_Mo_says hd _ _ _ σ _ _ h ⟨rfl, rfl⟩)

set_option maxRecDepth 100000 in
theorem b_Mo_left {fo : Option Nat} {d : Nat} (hd : 9 ≤ d + 1) {o : q_O} {σ' : q_H} (v0 : Nat) (v1 : Int32) (v2 : Int32) (v3 : Int32) (σ : q_H) : q_J (fun (r : Int32) (σ1 : q_H) => o = .inl (some (.int r)) ∧ σ' = σ1) (f_Mo_left v0 v1 v2 v3 σ) (q_G (q_rf fo) d m_Mo_left o σ' 0 [some (.ref v0), some (.int v1), some (.int v2), some (.int v3)] [] σ) := by
  unfold f_Mo_left
  refine J_bind fun σ1 hσ1 => ?_
  refine J_cl fun x3 σ2 hσ2 => ?_
  refine q_J.step (fun g => j_aload_n rfl rfl (j_iconst (0 : Int32) rfl k32_0 (j_putf rfl rfl rfl rfl hσ1 (j_iload_n rfl rfl (j_iconst (0 : Int32) rfl k32_0 (j_iconst (1 : Int32) rfl k32_1 (j_s1 [.int v2, .int (0 : Int32), .int (1 : Int32)] [] rfl rfl rfl rfl rfl (t_Mo_within (by omega) hσ2) (g)))))))) ?_
  refine J_ite (fun h4 => ?_) (fun h4 => ?_)
  · exact J_some (fun h => j_if_t rfl (cc_eq_t h4) (j_iconst (-1 : Int32) rfl k32_m1 (j_iret rfl rfl h)))
  refine J_cl fun x6 σ5 hσ5 => ?_
  refine q_J.step (fun g => j_if_f rfl (cc_eq_f h4) (j_iload_n rfl rfl (j_iconst (0 : Int32) rfl k32_0 (j_iconst (1 : Int32) rfl k32_1 (j_s1 [.int v3, .int (0 : Int32), .int (1 : Int32)] [] rfl rfl rfl rfl rfl (t_Mo_within (by omega) hσ5) (g)))))) ?_
  refine J_ite (fun h7 => ?_) (fun h7 => ?_)
  · exact J_some (fun h => j_if_t rfl (cc_eq_t h7) (j_iconst (-1 : Int32) rfl k32_m1 (j_iret rfl rfl h)))
  refine q_J.step (fun g => j_if_f rfl (cc_eq_f h7) (j_iload_n rfl rfl (j_iconst (-1 : Int32) rfl k32_m1 (g)))) ?_
  refine J_ite (fun h8 => ?_) (fun h8 => ?_)
  · refine q_J.step (fun g => j_icmp_t rfl (cc_eq_t h8) (j_iload_n rfl rfl (j_iconst (-1 : Int32) rfl k32_m1 (g)))) ?_
    refine J_ite (fun h9 => ?_) (fun h9 => ?_)
    · refine J_bind fun w10 hw10 => ?_
      refine J_cl fun x12 σ11 hσ11 => ?_
      exact J_some (fun h => j_icmp_f rfl (cc_ne_f h9) (j_aload_n rfl rfl (j_iload_n rfl rfl (j_iconst (2 : Int32) rfl k32_2 (j_iload_n rfl rfl (j_isub rfl (j_v1 [.ref v0, .int v2, .int ((2 : Int32) - v3)] [] rfl rfl rfl rfl rfl rfl hw10 (Or.inl rfl) (t_Mo_leftAll (by omega) hσ11) (j_iret rfl rfl h))))))))
    refine J_bind fun w13 hw13 => ?_
    refine J_cl fun _ σ14 hσ14 => ?_
    refine J_bind fun w16 hw16 => ?_
    refine J_cl fun x18 σ17 hσ17 => ?_
    exact J_some (fun h => j_icmp_t rfl (cc_ne_t h9) (j_aload_n rfl rfl (j_v0 [.ref v0] [] rfl rfl rfl rfl rfl rfl hw13 (Or.inl rfl) (t_Mo_houses (by omega) hσ14) (j_aload_n rfl rfl (j_iload_n rfl rfl (j_iload_n rfl rfl (j_iconst (2 : Int32) rfl k32_2 (j_iload_n rfl rfl (j_isub rfl (j_v1 [.ref v0, .int v1, .int v2, .int ((2 : Int32) - v3)] [] rfl rfl rfl rfl rfl rfl hw16 (Or.inl rfl) (t_Mo_leftIn (by omega) hσ17) (j_iret rfl rfl h)))))))))))
  refine J_bind fun w19 hw19 => ?_
  refine J_cl fun x21 σ20 hσ20 => ?_
  refine q_J.step (fun g => j_icmp_f rfl (cc_eq_f h8) (j_aload_n rfl rfl (j_iload_n rfl rfl (j_v1 [.ref v0, .int v1] [] rfl rfl rfl rfl rfl rfl hw19 (Or.inl rfl) (t_Mo_isThere (by omega) hσ20) (g))))) ?_
  refine J_ite (fun h22 => ?_) (fun h22 => ?_)
  · exact J_some (fun h => j_if_f rfl (cc_ne_f h22) (j_iconst (-1 : Int32) rfl k32_m1 (j_iret rfl rfl h)))
  refine q_J.step (fun g => j_if_t rfl (cc_ne_t h22) (j_iload_n rfl rfl (j_iconst (-1 : Int32) rfl k32_m1 (g)))) ?_
  refine J_ite (fun h23 => ?_) (fun h23 => ?_)
  · refine J_bind fun w24 hw24 => ?_
    refine J_cl fun x26 σ25 hσ25 => ?_
    exact J_some (fun h => j_icmp_f rfl (cc_ne_f h23) (j_aload_n rfl rfl (j_iload_n rfl rfl (j_iconst (2 : Int32) rfl k32_2 (j_iload_n rfl rfl (j_isub rfl (j_v1 [.ref v0, .int v2, .int ((2 : Int32) - v3)] [] rfl rfl rfl rfl rfl rfl hw24 (Or.inl rfl) (t_Mo_leftAll (by omega) hσ25) (j_iret rfl rfl h))))))))
  refine J_bind fun w27 hw27 => ?_
  refine J_cl fun _ σ28 hσ28 => ?_
  refine J_bind fun w30 hw30 => ?_
  refine J_cl fun x32 σ31 hσ31 => ?_
  exact J_some (fun h => j_icmp_t rfl (cc_ne_t h23) (j_aload_n rfl rfl (j_v0 [.ref v0] [] rfl rfl rfl rfl rfl rfl hw27 (Or.inl rfl) (t_Mo_houses (by omega) hσ28) (j_aload_n rfl rfl (j_iload_n rfl rfl (j_iload_n rfl rfl (j_iconst (2 : Int32) rfl k32_2 (j_iload_n rfl rfl (j_isub rfl (j_v1 [.ref v0, .int v1, .int v2, .int ((2 : Int32) - v3)] [] rfl rfl rfl rfl rfl rfl hw30 (Or.inl rfl) (t_Mo_leftIn (by omega) hσ31) (j_iret rfl rfl h)))))))))))
theorem t_Mo_left {fo : Option Nat} {d : Nat} (hd : 9 ≤ d) {v0 : Nat} {v1 : Int32} {v2 : Int32} {v3 : Int32} {σ σ1 : q_H} {r : Int32} (h : f_Mo_left v0 v1 v2 v3 σ = some (r, σ1)) : q_Rel (q_rf fo) q_Ms d 228 [.ref v0, .int v1, .int v2, .int v3] σ (.inl (some (.int r))) σ1 := by
  obtain ⟨d, rfl⟩ : ∃ d1, d = d1 + 1 := ⟨d - 1, by omega⟩
  exact q_Rel.of rfl rfl (b_Mo_left hd _ _ _ _ σ _ _ h ⟨rfl, rfl⟩)

set_option maxRecDepth 100000 in
theorem l_Mo_young_L44 {fo : Option Nat} {d : Nat} (hd : 9 ≤ d + 1) {o : q_O} {σ' : q_H} {E : (Int32) → q_H → Prop} (v0 : Nat) (v1 : Int32) (v2 : Int32) (v4 : Int32) (hX : ∀ (t : Int32) σ1, E (t) σ1 → q_G (q_rf fo) d m_Mo_young o σ' 108 [some (.ref v0), some (.int v1), some (.int v2), some (.int t), some (.int v4), none] [] σ1)  : ∀ (n : Nat) (v3 : Int32) (v5 : Int32) (σ : q_H), q_J E (f_Mo_young_L44 v0 v1 v2 v4 n v3 v5 σ) (q_G (q_rf fo) d m_Mo_young o σ' 44 [some (.ref v0), some (.int v1), some (.int v2), some (.int v3), some (.int v4), some (.int v5)] [] σ)
  | 0, v3, v5, σ => J_none
  | n + 1, v3, v5, σ => by
    unfold f_Mo_young_L44
    refine J_bind fun w1 hw1 => ?_
    refine J_cl fun x3 σ2 hσ2 => ?_
    refine q_J.step (fun g => j_aload_n rfl rfl (j_iload rfl rfl (j_v1 [.ref v0, .int v4] [] rfl rfl rfl rfl rfl rfl hw1 (Or.inl rfl) (t_Mo_isThere (by omega) hσ2) (g)))) ?_
    refine J_ite (fun h4 => ?_) (fun h4 => ?_)
    · exact J_some (fun h => j_if_t rfl (cc_eq_t h4) (j_weak (l := [some (.ref v0), some (.int v1), some (.int v2), some (.int v3), some (.int v4), none]) (And.intro (Or.inr rfl) (And.intro (Or.inr rfl) (And.intro (Or.inr rfl) (And.intro (Or.inr rfl) (And.intro (Or.inr rfl) (And.intro (Or.inl rfl) True.intro)))))) (hX _ _ h)))
    refine J_bind fun x5 hx5 => ?_
    refine J_bind fun x6 hx6 => ?_
    refine q_J.step (fun g => j_if_f rfl (cc_eq_f h4) (j_iload rfl rfl (j_bipush (12 : Int32) rfl kb_12 (j_iload rfl rfl (j_imul rfl (j_aload_n rfl rfl (j_gfr rfl hx5 (j_iload rfl rfl (j_ial rfl hx6 (j_iadd rfl (g))))))))))) ?_
    refine J_ite (fun h7 => ?_) (fun h7 => ?_)
    · refine J_bind fun x8 hx8 => ?_
      refine J_bind fun x9 hx9 => ?_
      refine q_J.step (fun g => j_icmp_f rfl (cc_ge_f h7) (j_iload_n rfl rfl (j_aload_n rfl rfl (j_gfr rfl hx8 (j_iload rfl rfl (j_ial rfl hx9 (j_iload_n rfl rfl (g)))))))) ?_
      refine J_ite (fun h10 => ?_) (fun h10 => ?_)
      · refine J_bind fun x11 hx11 => ?_
        refine J_bind fun x12 hx12 => ?_
        refine q_J.step (fun g => j_icmp_f rfl (cc_ne_f h10) (j_aload_n rfl rfl (j_gfr rfl hx11 (j_iload rfl rfl (j_ial rfl hx12 (j_bipush (14 : Int32) rfl kb_14 (g))))))) ?_
        refine J_ite (fun h13 => ?_) (fun h13 => ?_)
        · exact q_J.step (fun g => j_icmp_t rfl (cc_gt_t h13) (j_iconst (0 : Int32) rfl k32_0 (j_iadd rfl (j_istore_n [some (.ref v0), some (.int v1), some (.int v2), some (.int (v3 + (0 : Int32))), some (.int v4), some (.int v5)] rfl rfl (Or.inr rfl) rfl (j_iinc [some (.ref v0), some (.int v1), some (.int v2), some (.int (v3 + (0 : Int32))), some (.int v4), some (.int (v5 + (1 : Int32)))] (v5 + (1 : Int32)) rfl rfl (by rw [k32_1]) (Or.inr rfl) rfl (j_goto rfl (g))))))) (l_Mo_young_L44 hd v0 v1 v2 v4 hX n (v3 + (0 : Int32)) (v5 + (1 : Int32)) σ2)
        exact q_J.step (fun g => j_icmp_f rfl (cc_gt_f h13) (j_iconst (1 : Int32) rfl k32_1 (j_goto rfl (j_iadd rfl (j_istore_n [some (.ref v0), some (.int v1), some (.int v2), some (.int (v3 + (1 : Int32))), some (.int v4), some (.int v5)] rfl rfl (Or.inr rfl) rfl (j_iinc [some (.ref v0), some (.int v1), some (.int v2), some (.int (v3 + (1 : Int32))), some (.int v4), some (.int (v5 + (1 : Int32)))] (v5 + (1 : Int32)) rfl rfl (by rw [k32_1]) (Or.inr rfl) rfl (j_goto rfl (g)))))))) (l_Mo_young_L44 hd v0 v1 v2 v4 hX n (v3 + (1 : Int32)) (v5 + (1 : Int32)) σ2)
      exact q_J.step (fun g => j_icmp_t rfl (cc_ne_t h10) (j_iconst (0 : Int32) rfl k32_0 (j_iadd rfl (j_istore_n [some (.ref v0), some (.int v1), some (.int v2), some (.int (v3 + (0 : Int32))), some (.int v4), some (.int v5)] rfl rfl (Or.inr rfl) rfl (j_iinc [some (.ref v0), some (.int v1), some (.int v2), some (.int (v3 + (0 : Int32))), some (.int v4), some (.int (v5 + (1 : Int32)))] (v5 + (1 : Int32)) rfl rfl (by rw [k32_1]) (Or.inr rfl) rfl (j_goto rfl (g))))))) (l_Mo_young_L44 hd v0 v1 v2 v4 hX n (v3 + (0 : Int32)) (v5 + (1 : Int32)) σ2)
    exact J_some (fun h => j_icmp_t rfl (cc_ge_t h7) (j_weak (l := [some (.ref v0), some (.int v1), some (.int v2), some (.int v3), some (.int v4), none]) (And.intro (Or.inr rfl) (And.intro (Or.inr rfl) (And.intro (Or.inr rfl) (And.intro (Or.inr rfl) (And.intro (Or.inr rfl) (And.intro (Or.inl rfl) True.intro)))))) (hX _ _ h)))

set_option maxRecDepth 100000 in
theorem l_Mo_young_L30 {fo : Option Nat} {d : Nat} (hd : 9 ≤ d + 1) {o : q_O} {σ' : q_H} {E : (Int32) → q_H → Prop} (v0 : Nat) (v1 : Int32) (v2 : Int32) (hX : ∀ (t : Int32) σ1, E (t) σ1 → q_G (q_rf fo) d m_Mo_young o σ' 114 [some (.ref v0), some (.int v1), some (.int v2), some (.int t), none, none] [] σ1)  : ∀ (n : Nat) (v3 : Int32) (v4 : Int32) (σ : q_H), q_J E (f_Mo_young_L30 v0 v1 v2 n v3 v4 σ) (q_G (q_rf fo) d m_Mo_young o σ' 30 [some (.ref v0), some (.int v1), some (.int v2), some (.int v3), some (.int v4), none] [] σ)
  | 0, v3, v4, σ => J_none
  | n + 1, v3, v4, σ => by
    unfold f_Mo_young_L30
    refine q_J.step (fun g => j_iload rfl rfl (j_bipush (24 : Int32) rfl kb_24 (g))) ?_
    refine J_ite (fun h1 => ?_) (fun h1 => ?_)
    · refine J_sq (fun (t2 : Int32) (σ3 : q_H) => q_G (q_rf fo) d m_Mo_young o σ' 108 [some (.ref v0), some (.int v1), some (.int v2), some (.int t2), some (.int v4), none] [] σ3) (q_J.step (fun g => j_icmp_f rfl (cc_ge_f h1) (j_bipush (12 : Int32) rfl kb_12 (j_iload rfl rfl (j_imul rfl (j_istore [some (.ref v0), some (.int v1), some (.int v2), some (.int v3), some (.int v4), some (.int ((12 : Int32) * v4))] rfl rfl (Or.inr rfl) rfl (g)))))) (l_Mo_young_L44 hd v0 v1 v2 v4 (fun _ _ h => h) q_FU v3 ((12 : Int32) * v4) σ)) (fun t2 σ3 => ?_)
      exact q_J.step (fun g => j_iinc [some (.ref v0), some (.int v1), some (.int v2), some (.int t2), some (.int (v4 + (1 : Int32))), none] (v4 + (1 : Int32)) rfl rfl (by rw [k32_1]) (Or.inr rfl) rfl (j_goto rfl (g))) (l_Mo_young_L30 hd v0 v1 v2 hX n t2 (v4 + (1 : Int32)) σ3)
    exact J_some (fun h => j_icmp_t rfl (cc_ge_t h1) (j_weak (l := [some (.ref v0), some (.int v1), some (.int v2), some (.int v3), none, none]) (And.intro (Or.inr rfl) (And.intro (Or.inr rfl) (And.intro (Or.inr rfl) (And.intro (Or.inr rfl) (And.intro (Or.inl rfl) (And.intro (Or.inr rfl) True.intro)))))) (hX _ _ h)))

set_option maxRecDepth 100000 in
theorem b_Mo_young {fo : Option Nat} {d : Nat} (hd : 9 ≤ d + 1) {o : q_O} {σ' : q_H} (v0 : Nat) (v1 : Int32) (v2 : Int32) (σ : q_H) : q_J (fun (r : Int32) (σ1 : q_H) => o = .inl (some (.int r)) ∧ σ' = σ1) (f_Mo_young v0 v1 v2 σ) (q_G (q_rf fo) d m_Mo_young o σ' 0 [some (.ref v0), some (.int v1), some (.int v2), none, none, none] [] σ) := by
  unfold f_Mo_young
  refine J_bind fun σ1 hσ1 => ?_
  refine J_cl fun x3 σ2 hσ2 => ?_
  refine q_J.step (fun g => j_aload_n rfl rfl (j_iconst (0 : Int32) rfl k32_0 (j_putf rfl rfl rfl rfl hσ1 (j_iload_n rfl rfl (j_iconst (0 : Int32) rfl k32_0 (j_iconst (1 : Int32) rfl k32_1 (j_s1 [.int v1, .int (0 : Int32), .int (1 : Int32)] [] rfl rfl rfl rfl rfl (t_Mo_within (by omega) hσ2) (g)))))))) ?_
  refine J_ite (fun h4 => ?_) (fun h4 => ?_)
  · exact J_some (fun h => j_if_t rfl (cc_eq_t h4) (j_iconst (-1 : Int32) rfl k32_m1 (j_iret rfl rfl h)))
  refine J_cl fun x6 σ5 hσ5 => ?_
  refine q_J.step (fun g => j_if_f rfl (cc_eq_f h4) (j_iload_n rfl rfl (j_iconst (0 : Int32) rfl k32_0 (j_iconst (2 : Int32) rfl k32_2 (j_s1 [.int v2, .int (0 : Int32), .int (2 : Int32)] [] rfl rfl rfl rfl rfl (t_Mo_within (by omega) hσ5) (g)))))) ?_
  refine J_ite (fun h7 => ?_) (fun h7 => ?_)
  · exact J_some (fun h => j_if_f rfl (cc_ne_f h7) (j_iconst (-1 : Int32) rfl k32_m1 (j_iret rfl rfl h)))
  refine J_sq (fun (t8 : Int32) (σ9 : q_H) => q_G (q_rf fo) d m_Mo_young o σ' 114 [some (.ref v0), some (.int v1), some (.int v2), some (.int t8), none, none] [] σ9) (q_J.step (fun g => j_if_t rfl (cc_ne_t h7) (j_iconst (0 : Int32) rfl k32_0 (j_istore_n [some (.ref v0), some (.int v1), some (.int v2), some (.int (0 : Int32)), none, none] rfl rfl (Or.inr rfl) rfl (j_iconst (0 : Int32) rfl k32_0 (j_istore [some (.ref v0), some (.int v1), some (.int v2), some (.int (0 : Int32)), some (.int (0 : Int32)), none] rfl rfl (Or.inr rfl) rfl (g)))))) (l_Mo_young_L30 hd v0 v1 v2 (fun _ _ h => h) q_FU (0 : Int32) (0 : Int32) σ5)) (fun t8 σ9 => ?_)
  refine q_J.step (fun g => j_iload_n rfl rfl (g)) ?_
  refine J_sq (fun (t14 : Int32) (σ15 : q_H) => q_G (q_rf fo) d m_Mo_young o σ' 127 [some (.ref v0), some (.int v1), some (.int v2), some (.int t14), none, none] [] σ15) ?_ (fun t14 σ15 => ?_)
  · refine J_ite (fun h10 => ?_) (fun h10 => ?_)
    · refine J_bind fun w11 hw11 => ?_
      refine J_cl fun x13 σ12 hσ12 => ?_
      exact J_some (fun h => j_if_f rfl (cc_le_f h10) (j_iload_n rfl rfl (j_aload_n rfl rfl (j_iload_n rfl rfl (j_iconst (2 : Int32) rfl k32_2 (j_v1 [.ref v0, .int v1, .int (2 : Int32)] [.int t8] rfl rfl rfl rfl rfl rfl hw11 (Or.inl rfl) (t_Mo_leftAll (by omega) hσ12) (j_iadd rfl (j_istore_n [some (.ref v0), some (.int v1), some (.int v2), some (.int (t8 + x13)), none, none] rfl rfl (Or.inr rfl) rfl (h)))))))))
    exact J_some (fun h => j_if_t rfl (cc_le_t h10) (h))
  refine q_J.step (fun g => j_iload_n rfl rfl (j_iconst (1 : Int32) rfl k32_1 (g))) ?_
  refine J_ite (fun h16 => ?_) (fun h16 => ?_)
  · refine J_bind fun w17 hw17 => ?_
    refine J_cl fun x19 σ18 hσ18 => ?_
    exact J_some (fun h => j_icmp_f rfl (cc_le_f h16) (j_iload_n rfl rfl (j_aload_n rfl rfl (j_iload_n rfl rfl (j_iconst (1 : Int32) rfl k32_1 (j_v1 [.ref v0, .int v1, .int (1 : Int32)] [.int t14] rfl rfl rfl rfl rfl rfl hw17 (Or.inl rfl) (t_Mo_leftAll (by omega) hσ18) (j_iadd rfl (j_istore_n [some (.ref v0), some (.int v1), some (.int v2), some (.int (t14 + x19)), none, none] rfl rfl (Or.inr rfl) rfl (j_iload_n rfl rfl (j_iret rfl rfl h))))))))))
  exact J_some (fun h => j_icmp_t rfl (cc_le_t h16) (j_iload_n rfl rfl (j_iret rfl rfl h)))
theorem t_Mo_young {fo : Option Nat} {d : Nat} (hd : 9 ≤ d) {v0 : Nat} {v1 : Int32} {v2 : Int32} {σ σ1 : q_H} {r : Int32} (h : f_Mo_young v0 v1 v2 σ = some (r, σ1)) : q_Rel (q_rf fo) q_Ms d 274 [.ref v0, .int v1, .int v2] σ (.inl (some (.int r))) σ1 := by
  obtain ⟨d, rfl⟩ : ∃ d1, d = d1 + 1 := ⟨d - 1, by omega⟩
  exact q_Rel.of rfl rfl (b_Mo_young hd _ _ _ σ _ _ h ⟨rfl, rfl⟩)

