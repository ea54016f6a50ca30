/-! Methods of the reference: walks. -/
set_option maxRecDepth 100000 in
theorem l_Mo_readsLine_L161 {fo : Option Nat} {d : Nat} (hd : 4 ≤ d + 1) {o : q_O} {σ' : q_H} {E : (Int32 ⊕ Unit) → q_H → Prop} (v0 : Nat) (v1 : Int32) (hR : ∀ r σ1, E (.inl r) σ1 → o = .inl (some (.int r)) ∧ σ' = σ1) (hX : ∀ (t : Unit) σ1, E (.inr t) σ1 → q_G (q_rf fo) d m_Mo_readsLine o σ' 287 [some (.ref v0), none, none, none] [] σ1)  : ∀ (n : Nat) (v2 : Int32) (σ : q_H), q_J E (f_Mo_readsLine_L161 v0 v1 n v2 σ) (q_G (q_rf fo) d m_Mo_readsLine o σ' 161 [some (.ref v0), some (.int v1), some (.int v2), none] [] σ)
  | 0, v2, σ => J_none
  | n + 1, v2, σ => by
    unfold f_Mo_readsLine_L161
    refine J_bind fun w1 hw1 => ?_
    refine J_cl fun x3 σ2 hσ2 => ?_
    refine q_J.step (fun g => j_aload_n rfl rfl (j_bipush (59 : Int32) rfl kb_59 (j_v1 [.ref v0, .int (59 : Int32)] [] rfl rfl rfl rfl rfl rfl hw1 (Or.inl rfl) (t_Mo_isSign (by omega) hσ2) (g)))) ?_
    refine J_ite (fun h4 => ?_) (fun h4 => ?_)
    · refine J_bind fun w5 hw5 => ?_
      refine J_cl fun x7 σ6 hσ6 => ?_
      refine q_J.step (fun g => j_if_f rfl (cc_ne_f h4) (j_aload_n rfl rfl (j_v1 [.ref v0] [] rfl rfl rfl rfl rfl rfl hw5 (Or.inl rfl) (t_Mo_tag (by omega) hσ6) (j_istore_n [some (.ref v0), some (.int v1), some (.int v2), some (.int x7)] rfl rfl (Or.inr rfl) rfl (j_iload_n rfl rfl (g)))))) ?_
      refine J_ite (fun h8 => ?_) (fun h8 => ?_)
      · refine J_bind fun w9 hw9 => ?_
        refine J_cl fun x11 σ10 hσ10 => ?_
        refine q_J.step (fun g => j_if_f rfl (cc_ne_f h8) (j_aload_n rfl rfl (j_iconst (1 : Int32) rfl k32_1 (j_v1 [.ref v0, .int (1 : Int32)] [] rfl rfl rfl rfl rfl rfl hw9 (Or.inl rfl) (t_Mo_errs (by omega) hσ10) (g))))) ?_
        refine J_ite (fun _ => J_none) (fun hz => ?_)
        replace hz := Decidable.not_not.mp hz
        exact J_some (fun h => j_iret rfl (q_zr hz) (hR _ _ h))
      refine q_J.step (fun g => j_if_t rfl (cc_ne_t h8) (j_iload_n rfl rfl (j_iload_n rfl rfl (j_ishr rfl (j_iconst (1 : Int32) rfl k32_1 (j_iand rfl (j_iconst (1 : Int32) rfl k32_1 (g)))))))) ?_
      refine J_ite (fun h12 => ?_) (fun h12 => ?_)
      · refine J_bind fun w13 hw13 => ?_
        refine J_cl fun x15 σ14 hσ14 => ?_
        refine q_J.step (fun g => j_icmp_f rfl (cc_ne_f h12) (j_aload_n rfl rfl (j_iconst (3 : Int32) rfl k32_3 (j_v1 [.ref v0, .int (3 : Int32)] [] rfl rfl rfl rfl rfl rfl hw13 (Or.inl rfl) (t_Mo_errs (by omega) hσ14) (g))))) ?_
        refine J_ite (fun _ => J_none) (fun hz => ?_)
        replace hz := Decidable.not_not.mp hz
        exact J_some (fun h => j_iret rfl (q_zr hz) (hR _ _ h))
      refine q_J.step (fun g => j_icmp_t rfl (cc_ne_t h12) (j_iload_n rfl rfl (j_iconst (3 : Int32) rfl k32_3 (g)))) ?_
      refine J_ite (fun h16 => ?_) (fun h16 => ?_)
      · refine J_bind fun x17 hx17 => ?_
        refine J_bind fun x18 hx18 => ?_
        refine q_J.step (fun g => j_icmp_t rfl (cc_eq_t h16) (j_aload_n rfl rfl (j_gfr rfl hx17 (j_iload_n rfl rfl (j_ial rfl hx18 (g)))))) ?_
        refine J_ite (fun h19 => ?_) (fun h19 => ?_)
        · refine J_bind fun w20 hw20 => ?_
          refine J_cl fun x22 σ21 hσ21 => ?_
          refine q_J.step (fun g => j_if_t rfl (cc_eq_t h19) (j_aload_n rfl rfl (j_bipush (6 : Int32) rfl kb_6 (j_v1 [.ref v0, .int (6 : Int32)] [] rfl rfl rfl rfl rfl rfl hw20 (Or.inl rfl) (t_Mo_errs (by omega) hσ21) (g))))) ?_
          refine J_ite (fun _ => J_none) (fun hz => ?_)
          replace hz := Decidable.not_not.mp hz
          exact J_some (fun h => j_iret rfl (q_zr hz) (hR _ _ h))
        refine q_J.step (fun g => j_if_f rfl (cc_eq_f h19) (j_iload_n rfl rfl (j_iconst (5 : Int32) rfl k32_5 (g)))) ?_
        refine J_ite (fun h23 => ?_) (fun h23 => ?_)
        · refine q_J.step (fun g => j_icmp_f rfl (cc_ne_f h23) (j_iload_n rfl rfl (j_iconst (4 : Int32) rfl k32_4 (j_ishr rfl (j_iconst (1 : Int32) rfl k32_1 (j_iand rfl (g))))))) ?_
          refine J_ite (fun h24 => ?_) (fun h24 => ?_)
          · refine J_bind fun w25 hw25 => ?_
            refine J_cl fun x27 σ26 hσ26 => ?_
            refine q_J.step (fun g => j_if_f rfl (cc_ne_f h24) (j_aload_n rfl rfl (j_bipush (6 : Int32) rfl kb_6 (j_v1 [.ref v0, .int (6 : Int32)] [] rfl rfl rfl rfl rfl rfl hw25 (Or.inl rfl) (t_Mo_errs (by omega) hσ26) (g))))) ?_
            refine J_ite (fun _ => J_none) (fun hz => ?_)
            replace hz := Decidable.not_not.mp hz
            exact J_some (fun h => j_iret rfl (q_zr hz) (hR _ _ h))
          refine J_bind fun w28 hw28 => ?_
          refine J_cl fun _ σ29 hσ29 => ?_
          refine q_J.step (fun g => j_if_t rfl (cc_ne_t h24) (j_iload_n rfl rfl (j_iconst (1 : Int32) rfl k32_1 (j_iload_n rfl rfl (j_ishl rfl (j_ior rfl (j_istore_n [some (.ref v0), some (.int v1), some (.int (v2 ||| ((1 : Int32) <<< (x7 &&& 31)))), some (.int x7)] rfl rfl (Or.inr rfl) rfl (j_aload_n rfl rfl (j_v0 [.ref v0] [] rfl rfl rfl rfl rfl rfl hw28 (Or.inl rfl) (t_Mo_nextToken (by omega) hσ29) (j_iload_n rfl rfl (j_iconst (5 : Int32) rfl k32_5 (g)))))))))))) ?_
          refine J_ite (fun h31 => ?_) (fun h31 => ?_)
          · refine J_bind fun w32 hw32 => ?_
            refine J_cl fun x34 σ33 hσ33 => ?_
            refine q_J.step (fun g => j_icmp_f rfl (cc_ge_f h31) (j_aload_n rfl rfl (j_iload_n rfl rfl (j_iload_n rfl rfl (j_v1 [.ref v0, .int v1, .int x7] [] rfl rfl rfl rfl rfl rfl hw32 (Or.inl rfl) (t_Mo_readsName (by omega) hσ33) (g)))))) ?_
            refine J_ite (fun h35 => ?_) (fun h35 => ?_)
            · exact J_some (fun h => j_if_f rfl (cc_ne_f h35) (j_iconst (0 : Int32) rfl k32_0 (j_iret rfl (q_zr (Or.inl rfl)) (hR _ _ h))))
            refine q_J.step (fun g => j_if_t rfl (cc_ne_t h35) (j_iload_n rfl rfl (j_iconst (4 : Int32) rfl k32_4 (g)))) ?_
            refine J_ite (fun h36 => ?_) (fun h36 => ?_)
            · refine J_bind fun x37 hx37 => ?_
              refine J_bind fun x38 hx38 => ?_
              refine J_bind fun σ39 hσ39 => ?_
              exact q_J.step (fun g => j_icmp_f rfl (cc_le_f h36) (j_aload_n rfl rfl (j_gfr rfl hx37 (j_iload_n rfl rfl (j_dup2 rfl rfl rfl (j_ial rfl hx38 (j_iconst (1 : Int32) rfl k32_1 (j_iload_n rfl rfl (j_iconst (5 : Int32) rfl k32_5 (j_isub rfl (j_ishl rfl (j_ior rfl (j_ias rfl hσ39 (j_goto rfl (j_weak (l := [some (.ref v0), some (.int v1), some (.int (v2 ||| ((1 : Int32) <<< (x7 &&& 31)))), none]) (And.intro (Or.inr rfl) (And.intro (Or.inr rfl) (And.intro (Or.inr rfl) (And.intro (Or.inl rfl) True.intro)))) (g)))))))))))))))) (l_Mo_readsLine_L161 hd v0 v1 hR hX n (v2 ||| ((1 : Int32) <<< (x7 &&& 31))) σ39)
            exact q_J.step (fun g => j_icmp_t rfl (cc_le_t h36) (j_goto rfl (j_weak (l := [some (.ref v0), some (.int v1), some (.int (v2 ||| ((1 : Int32) <<< (x7 &&& 31)))), none]) (And.intro (Or.inr rfl) (And.intro (Or.inr rfl) (And.intro (Or.inr rfl) (And.intro (Or.inl rfl) True.intro)))) (g)))) (l_Mo_readsLine_L161 hd v0 v1 hR hX n (v2 ||| ((1 : Int32) <<< (x7 &&& 31))) σ33)
          refine q_J.step (fun g => j_icmp_t rfl (cc_ge_t h31) (j_iload_n rfl rfl (j_iconst (4 : Int32) rfl k32_4 (g)))) ?_
          refine J_ite (fun h40 => ?_) (fun h40 => ?_)
          · refine J_bind fun x41 hx41 => ?_
            refine J_bind fun x42 hx42 => ?_
            refine J_bind fun σ43 hσ43 => ?_
            exact q_J.step (fun g => j_icmp_f rfl (cc_le_f h40) (j_aload_n rfl rfl (j_gfr rfl hx41 (j_iload_n rfl rfl (j_dup2 rfl rfl rfl (j_ial rfl hx42 (j_iconst (1 : Int32) rfl k32_1 (j_iload_n rfl rfl (j_iconst (5 : Int32) rfl k32_5 (j_isub rfl (j_ishl rfl (j_ior rfl (j_ias rfl hσ43 (j_goto rfl (j_weak (l := [some (.ref v0), some (.int v1), some (.int (v2 ||| ((1 : Int32) <<< (x7 &&& 31)))), none]) (And.intro (Or.inr rfl) (And.intro (Or.inr rfl) (And.intro (Or.inr rfl) (And.intro (Or.inl rfl) True.intro)))) (g)))))))))))))))) (l_Mo_readsLine_L161 hd v0 v1 hR hX n (v2 ||| ((1 : Int32) <<< (x7 &&& 31))) σ43)
          exact q_J.step (fun g => j_icmp_t rfl (cc_le_t h40) (j_goto rfl (j_weak (l := [some (.ref v0), some (.int v1), some (.int (v2 ||| ((1 : Int32) <<< (x7 &&& 31)))), none]) (And.intro (Or.inr rfl) (And.intro (Or.inr rfl) (And.intro (Or.inr rfl) (And.intro (Or.inl rfl) True.intro)))) (g)))) (l_Mo_readsLine_L161 hd v0 v1 hR hX n (v2 ||| ((1 : Int32) <<< (x7 &&& 31))) σ29)
        refine J_bind fun w44 hw44 => ?_
        refine J_cl fun _ σ45 hσ45 => ?_
        refine q_J.step (fun g => j_icmp_t rfl (cc_ne_t h23) (j_iload_n rfl rfl (j_iconst (1 : Int32) rfl k32_1 (j_iload_n rfl rfl (j_ishl rfl (j_ior rfl (j_istore_n [some (.ref v0), some (.int v1), some (.int (v2 ||| ((1 : Int32) <<< (x7 &&& 31)))), some (.int x7)] rfl rfl (Or.inr rfl) rfl (j_aload_n rfl rfl (j_v0 [.ref v0] [] rfl rfl rfl rfl rfl rfl hw44 (Or.inl rfl) (t_Mo_nextToken (by omega) hσ45) (j_iload_n rfl rfl (j_iconst (5 : Int32) rfl k32_5 (g)))))))))))) ?_
        refine J_ite (fun h47 => ?_) (fun h47 => ?_)
        · refine J_bind fun w48 hw48 => ?_
          refine J_cl fun x50 σ49 hσ49 => ?_
          refine q_J.step (fun g => j_icmp_f rfl (cc_ge_f h47) (j_aload_n rfl rfl (j_iload_n rfl rfl (j_iload_n rfl rfl (j_v1 [.ref v0, .int v1, .int x7] [] rfl rfl rfl rfl rfl rfl hw48 (Or.inl rfl) (t_Mo_readsName (by omega) hσ49) (g)))))) ?_
          refine J_ite (fun h51 => ?_) (fun h51 => ?_)
          · exact J_some (fun h => j_if_f rfl (cc_ne_f h51) (j_iconst (0 : Int32) rfl k32_0 (j_iret rfl (q_zr (Or.inl rfl)) (hR _ _ h))))
          refine q_J.step (fun g => j_if_t rfl (cc_ne_t h51) (j_iload_n rfl rfl (j_iconst (4 : Int32) rfl k32_4 (g)))) ?_
          refine J_ite (fun h52 => ?_) (fun h52 => ?_)
          · refine J_bind fun x53 hx53 => ?_
            refine J_bind fun x54 hx54 => ?_
            refine J_bind fun σ55 hσ55 => ?_
            exact q_J.step (fun g => j_icmp_f rfl (cc_le_f h52) (j_aload_n rfl rfl (j_gfr rfl hx53 (j_iload_n rfl rfl (j_dup2 rfl rfl rfl (j_ial rfl hx54 (j_iconst (1 : Int32) rfl k32_1 (j_iload_n rfl rfl (j_iconst (5 : Int32) rfl k32_5 (j_isub rfl (j_ishl rfl (j_ior rfl (j_ias rfl hσ55 (j_goto rfl (j_weak (l := [some (.ref v0), some (.int v1), some (.int (v2 ||| ((1 : Int32) <<< (x7 &&& 31)))), none]) (And.intro (Or.inr rfl) (And.intro (Or.inr rfl) (And.intro (Or.inr rfl) (And.intro (Or.inl rfl) True.intro)))) (g)))))))))))))))) (l_Mo_readsLine_L161 hd v0 v1 hR hX n (v2 ||| ((1 : Int32) <<< (x7 &&& 31))) σ55)
          exact q_J.step (fun g => j_icmp_t rfl (cc_le_t h52) (j_goto rfl (j_weak (l := [some (.ref v0), some (.int v1), some (.int (v2 ||| ((1 : Int32) <<< (x7 &&& 31)))), none]) (And.intro (Or.inr rfl) (And.intro (Or.inr rfl) (And.intro (Or.inr rfl) (And.intro (Or.inl rfl) True.intro)))) (g)))) (l_Mo_readsLine_L161 hd v0 v1 hR hX n (v2 ||| ((1 : Int32) <<< (x7 &&& 31))) σ49)
        refine q_J.step (fun g => j_icmp_t rfl (cc_ge_t h47) (j_iload_n rfl rfl (j_iconst (4 : Int32) rfl k32_4 (g)))) ?_
        refine J_ite (fun h56 => ?_) (fun h56 => ?_)
        · refine J_bind fun x57 hx57 => ?_
          refine J_bind fun x58 hx58 => ?_
          refine J_bind fun σ59 hσ59 => ?_
          exact q_J.step (fun g => j_icmp_f rfl (cc_le_f h56) (j_aload_n rfl rfl (j_gfr rfl hx57 (j_iload_n rfl rfl (j_dup2 rfl rfl rfl (j_ial rfl hx58 (j_iconst (1 : Int32) rfl k32_1 (j_iload_n rfl rfl (j_iconst (5 : Int32) rfl k32_5 (j_isub rfl (j_ishl rfl (j_ior rfl (j_ias rfl hσ59 (j_goto rfl (j_weak (l := [some (.ref v0), some (.int v1), some (.int (v2 ||| ((1 : Int32) <<< (x7 &&& 31)))), none]) (And.intro (Or.inr rfl) (And.intro (Or.inr rfl) (And.intro (Or.inr rfl) (And.intro (Or.inl rfl) True.intro)))) (g)))))))))))))))) (l_Mo_readsLine_L161 hd v0 v1 hR hX n (v2 ||| ((1 : Int32) <<< (x7 &&& 31))) σ59)
        exact q_J.step (fun g => j_icmp_t rfl (cc_le_t h56) (j_goto rfl (j_weak (l := [some (.ref v0), some (.int v1), some (.int (v2 ||| ((1 : Int32) <<< (x7 &&& 31)))), none]) (And.intro (Or.inr rfl) (And.intro (Or.inr rfl) (And.intro (Or.inr rfl) (And.intro (Or.inl rfl) True.intro)))) (g)))) (l_Mo_readsLine_L161 hd v0 v1 hR hX n (v2 ||| ((1 : Int32) <<< (x7 &&& 31))) σ45)
      refine q_J.step (fun g => j_icmp_f rfl (cc_eq_f h16) (j_iload_n rfl rfl (j_iconst (4 : Int32) rfl k32_4 (g)))) ?_
      refine J_ite (fun h60 => ?_) (fun h60 => ?_)
      · refine J_bind fun x61 hx61 => ?_
        refine J_bind fun x62 hx62 => ?_
        refine q_J.step (fun g => j_icmp_f rfl (cc_ne_f h60) (j_aload_n rfl rfl (j_gfr rfl hx61 (j_iload_n rfl rfl (j_ial rfl hx62 (g)))))) ?_
        refine J_ite (fun h63 => ?_) (fun h63 => ?_)
        · refine J_bind fun w64 hw64 => ?_
          refine J_cl fun x66 σ65 hσ65 => ?_
          refine q_J.step (fun g => j_if_t rfl (cc_eq_t h63) (j_aload_n rfl rfl (j_bipush (6 : Int32) rfl kb_6 (j_v1 [.ref v0, .int (6 : Int32)] [] rfl rfl rfl rfl rfl rfl hw64 (Or.inl rfl) (t_Mo_errs (by omega) hσ65) (g))))) ?_
          refine J_ite (fun _ => J_none) (fun hz => ?_)
          replace hz := Decidable.not_not.mp hz
          exact J_some (fun h => j_iret rfl (q_zr hz) (hR _ _ h))
        refine q_J.step (fun g => j_if_f rfl (cc_eq_f h63) (j_iload_n rfl rfl (j_iconst (5 : Int32) rfl k32_5 (g)))) ?_
        refine J_ite (fun h67 => ?_) (fun h67 => ?_)
        · refine q_J.step (fun g => j_icmp_f rfl (cc_ne_f h67) (j_iload_n rfl rfl (j_iconst (4 : Int32) rfl k32_4 (j_ishr rfl (j_iconst (1 : Int32) rfl k32_1 (j_iand rfl (g))))))) ?_
          refine J_ite (fun h68 => ?_) (fun h68 => ?_)
          · refine J_bind fun w69 hw69 => ?_
            refine J_cl fun x71 σ70 hσ70 => ?_
            refine q_J.step (fun g => j_if_f rfl (cc_ne_f h68) (j_aload_n rfl rfl (j_bipush (6 : Int32) rfl kb_6 (j_v1 [.ref v0, .int (6 : Int32)] [] rfl rfl rfl rfl rfl rfl hw69 (Or.inl rfl) (t_Mo_errs (by omega) hσ70) (g))))) ?_
            refine J_ite (fun _ => J_none) (fun hz => ?_)
            replace hz := Decidable.not_not.mp hz
            exact J_some (fun h => j_iret rfl (q_zr hz) (hR _ _ h))
          refine J_bind fun w72 hw72 => ?_
          refine J_cl fun _ σ73 hσ73 => ?_
          refine q_J.step (fun g => j_if_t rfl (cc_ne_t h68) (j_iload_n rfl rfl (j_iconst (1 : Int32) rfl k32_1 (j_iload_n rfl rfl (j_ishl rfl (j_ior rfl (j_istore_n [some (.ref v0), some (.int v1), some (.int (v2 ||| ((1 : Int32) <<< (x7 &&& 31)))), some (.int x7)] rfl rfl (Or.inr rfl) rfl (j_aload_n rfl rfl (j_v0 [.ref v0] [] rfl rfl rfl rfl rfl rfl hw72 (Or.inl rfl) (t_Mo_nextToken (by omega) hσ73) (j_iload_n rfl rfl (j_iconst (5 : Int32) rfl k32_5 (g)))))))))))) ?_
          refine J_ite (fun h75 => ?_) (fun h75 => ?_)
          · refine J_bind fun w76 hw76 => ?_
            refine J_cl fun x78 σ77 hσ77 => ?_
            refine q_J.step (fun g => j_icmp_f rfl (cc_ge_f h75) (j_aload_n rfl rfl (j_iload_n rfl rfl (j_iload_n rfl rfl (j_v1 [.ref v0, .int v1, .int x7] [] rfl rfl rfl rfl rfl rfl hw76 (Or.inl rfl) (t_Mo_readsName (by omega) hσ77) (g)))))) ?_
            refine J_ite (fun h79 => ?_) (fun h79 => ?_)
            · exact J_some (fun h => j_if_f rfl (cc_ne_f h79) (j_iconst (0 : Int32) rfl k32_0 (j_iret rfl (q_zr (Or.inl rfl)) (hR _ _ h))))
            refine q_J.step (fun g => j_if_t rfl (cc_ne_t h79) (j_iload_n rfl rfl (j_iconst (4 : Int32) rfl k32_4 (g)))) ?_
            refine J_ite (fun h80 => ?_) (fun h80 => ?_)
            · refine J_bind fun x81 hx81 => ?_
              refine J_bind fun x82 hx82 => ?_
              refine J_bind fun σ83 hσ83 => ?_
              exact q_J.step (fun g => j_icmp_f rfl (cc_le_f h80) (j_aload_n rfl rfl (j_gfr rfl hx81 (j_iload_n rfl rfl (j_dup2 rfl rfl rfl (j_ial rfl hx82 (j_iconst (1 : Int32) rfl k32_1 (j_iload_n rfl rfl (j_iconst (5 : Int32) rfl k32_5 (j_isub rfl (j_ishl rfl (j_ior rfl (j_ias rfl hσ83 (j_goto rfl (j_weak (l := [some (.ref v0), some (.int v1), some (.int (v2 ||| ((1 : Int32) <<< (x7 &&& 31)))), none]) (And.intro (Or.inr rfl) (And.intro (Or.inr rfl) (And.intro (Or.inr rfl) (And.intro (Or.inl rfl) True.intro)))) (g)))))))))))))))) (l_Mo_readsLine_L161 hd v0 v1 hR hX n (v2 ||| ((1 : Int32) <<< (x7 &&& 31))) σ83)
            exact q_J.step (fun g => j_icmp_t rfl (cc_le_t h80) (j_goto rfl (j_weak (l := [some (.ref v0), some (.int v1), some (.int (v2 ||| ((1 : Int32) <<< (x7 &&& 31)))), none]) (And.intro (Or.inr rfl) (And.intro (Or.inr rfl) (And.intro (Or.inr rfl) (And.intro (Or.inl rfl) True.intro)))) (g)))) (l_Mo_readsLine_L161 hd v0 v1 hR hX n (v2 ||| ((1 : Int32) <<< (x7 &&& 31))) σ77)
          refine q_J.step (fun g => j_icmp_t rfl (cc_ge_t h75) (j_iload_n rfl rfl (j_iconst (4 : Int32) rfl k32_4 (g)))) ?_
          refine J_ite (fun h84 => ?_) (fun h84 => ?_)
          · refine J_bind fun x85 hx85 => ?_
            refine J_bind fun x86 hx86 => ?_
            refine J_bind fun σ87 hσ87 => ?_
            exact q_J.step (fun g => j_icmp_f rfl (cc_le_f h84) (j_aload_n rfl rfl (j_gfr rfl hx85 (j_iload_n rfl rfl (j_dup2 rfl rfl rfl (j_ial rfl hx86 (j_iconst (1 : Int32) rfl k32_1 (j_iload_n rfl rfl (j_iconst (5 : Int32) rfl k32_5 (j_isub rfl (j_ishl rfl (j_ior rfl (j_ias rfl hσ87 (j_goto rfl (j_weak (l := [some (.ref v0), some (.int v1), some (.int (v2 ||| ((1 : Int32) <<< (x7 &&& 31)))), none]) (And.intro (Or.inr rfl) (And.intro (Or.inr rfl) (And.intro (Or.inr rfl) (And.intro (Or.inl rfl) True.intro)))) (g)))))))))))))))) (l_Mo_readsLine_L161 hd v0 v1 hR hX n (v2 ||| ((1 : Int32) <<< (x7 &&& 31))) σ87)
          exact q_J.step (fun g => j_icmp_t rfl (cc_le_t h84) (j_goto rfl (j_weak (l := [some (.ref v0), some (.int v1), some (.int (v2 ||| ((1 : Int32) <<< (x7 &&& 31)))), none]) (And.intro (Or.inr rfl) (And.intro (Or.inr rfl) (And.intro (Or.inr rfl) (And.intro (Or.inl rfl) True.intro)))) (g)))) (l_Mo_readsLine_L161 hd v0 v1 hR hX n (v2 ||| ((1 : Int32) <<< (x7 &&& 31))) σ73)
        refine J_bind fun w88 hw88 => ?_
        refine J_cl fun _ σ89 hσ89 => ?_
        refine q_J.step (fun g => j_icmp_t rfl (cc_ne_t h67) (j_iload_n rfl rfl (j_iconst (1 : Int32) rfl k32_1 (j_iload_n rfl rfl (j_ishl rfl (j_ior rfl (j_istore_n [some (.ref v0), some (.int v1), some (.int (v2 ||| ((1 : Int32) <<< (x7 &&& 31)))), some (.int x7)] rfl rfl (Or.inr rfl) rfl (j_aload_n rfl rfl (j_v0 [.ref v0] [] rfl rfl rfl rfl rfl rfl hw88 (Or.inl rfl) (t_Mo_nextToken (by omega) hσ89) (j_iload_n rfl rfl (j_iconst (5 : Int32) rfl k32_5 (g)))))))))))) ?_
        refine J_ite (fun h91 => ?_) (fun h91 => ?_)
        · refine J_bind fun w92 hw92 => ?_
          refine J_cl fun x94 σ93 hσ93 => ?_
          refine q_J.step (fun g => j_icmp_f rfl (cc_ge_f h91) (j_aload_n rfl rfl (j_iload_n rfl rfl (j_iload_n rfl rfl (j_v1 [.ref v0, .int v1, .int x7] [] rfl rfl rfl rfl rfl rfl hw92 (Or.inl rfl) (t_Mo_readsName (by omega) hσ93) (g)))))) ?_
          refine J_ite (fun h95 => ?_) (fun h95 => ?_)
          · exact J_some (fun h => j_if_f rfl (cc_ne_f h95) (j_iconst (0 : Int32) rfl k32_0 (j_iret rfl (q_zr (Or.inl rfl)) (hR _ _ h))))
          refine q_J.step (fun g => j_if_t rfl (cc_ne_t h95) (j_iload_n rfl rfl (j_iconst (4 : Int32) rfl k32_4 (g)))) ?_
          refine J_ite (fun h96 => ?_) (fun h96 => ?_)
          · refine J_bind fun x97 hx97 => ?_
            refine J_bind fun x98 hx98 => ?_
            refine J_bind fun σ99 hσ99 => ?_
            exact q_J.step (fun g => j_icmp_f rfl (cc_le_f h96) (j_aload_n rfl rfl (j_gfr rfl hx97 (j_iload_n rfl rfl (j_dup2 rfl rfl rfl (j_ial rfl hx98 (j_iconst (1 : Int32) rfl k32_1 (j_iload_n rfl rfl (j_iconst (5 : Int32) rfl k32_5 (j_isub rfl (j_ishl rfl (j_ior rfl (j_ias rfl hσ99 (j_goto rfl (j_weak (l := [some (.ref v0), some (.int v1), some (.int (v2 ||| ((1 : Int32) <<< (x7 &&& 31)))), none]) (And.intro (Or.inr rfl) (And.intro (Or.inr rfl) (And.intro (Or.inr rfl) (And.intro (Or.inl rfl) True.intro)))) (g)))))))))))))))) (l_Mo_readsLine_L161 hd v0 v1 hR hX n (v2 ||| ((1 : Int32) <<< (x7 &&& 31))) σ99)
          exact q_J.step (fun g => j_icmp_t rfl (cc_le_t h96) (j_goto rfl (j_weak (l := [some (.ref v0), some (.int v1), some (.int (v2 ||| ((1 : Int32) <<< (x7 &&& 31)))), none]) (And.intro (Or.inr rfl) (And.intro (Or.inr rfl) (And.intro (Or.inr rfl) (And.intro (Or.inl rfl) True.intro)))) (g)))) (l_Mo_readsLine_L161 hd v0 v1 hR hX n (v2 ||| ((1 : Int32) <<< (x7 &&& 31))) σ93)
        refine q_J.step (fun g => j_icmp_t rfl (cc_ge_t h91) (j_iload_n rfl rfl (j_iconst (4 : Int32) rfl k32_4 (g)))) ?_
        refine J_ite (fun h100 => ?_) (fun h100 => ?_)
        · refine J_bind fun x101 hx101 => ?_
          refine J_bind fun x102 hx102 => ?_
          refine J_bind fun σ103 hσ103 => ?_
          exact q_J.step (fun g => j_icmp_f rfl (cc_le_f h100) (j_aload_n rfl rfl (j_gfr rfl hx101 (j_iload_n rfl rfl (j_dup2 rfl rfl rfl (j_ial rfl hx102 (j_iconst (1 : Int32) rfl k32_1 (j_iload_n rfl rfl (j_iconst (5 : Int32) rfl k32_5 (j_isub rfl (j_ishl rfl (j_ior rfl (j_ias rfl hσ103 (j_goto rfl (j_weak (l := [some (.ref v0), some (.int v1), some (.int (v2 ||| ((1 : Int32) <<< (x7 &&& 31)))), none]) (And.intro (Or.inr rfl) (And.intro (Or.inr rfl) (And.intro (Or.inr rfl) (And.intro (Or.inl rfl) True.intro)))) (g)))))))))))))))) (l_Mo_readsLine_L161 hd v0 v1 hR hX n (v2 ||| ((1 : Int32) <<< (x7 &&& 31))) σ103)
        exact q_J.step (fun g => j_icmp_t rfl (cc_le_t h100) (j_goto rfl (j_weak (l := [some (.ref v0), some (.int v1), some (.int (v2 ||| ((1 : Int32) <<< (x7 &&& 31)))), none]) (And.intro (Or.inr rfl) (And.intro (Or.inr rfl) (And.intro (Or.inr rfl) (And.intro (Or.inl rfl) True.intro)))) (g)))) (l_Mo_readsLine_L161 hd v0 v1 hR hX n (v2 ||| ((1 : Int32) <<< (x7 &&& 31))) σ89)
      refine q_J.step (fun g => j_icmp_t rfl (cc_ne_t h60) (j_iload_n rfl rfl (j_iconst (5 : Int32) rfl k32_5 (g)))) ?_
      refine J_ite (fun h104 => ?_) (fun h104 => ?_)
      · refine q_J.step (fun g => j_icmp_f rfl (cc_ne_f h104) (j_iload_n rfl rfl (j_iconst (4 : Int32) rfl k32_4 (j_ishr rfl (j_iconst (1 : Int32) rfl k32_1 (j_iand rfl (g))))))) ?_
        refine J_ite (fun h105 => ?_) (fun h105 => ?_)
        · refine J_bind fun w106 hw106 => ?_
          refine J_cl fun x108 σ107 hσ107 => ?_
          refine q_J.step (fun g => j_if_f rfl (cc_ne_f h105) (j_aload_n rfl rfl (j_bipush (6 : Int32) rfl kb_6 (j_v1 [.ref v0, .int (6 : Int32)] [] rfl rfl rfl rfl rfl rfl hw106 (Or.inl rfl) (t_Mo_errs (by omega) hσ107) (g))))) ?_
          refine J_ite (fun _ => J_none) (fun hz => ?_)
          replace hz := Decidable.not_not.mp hz
          exact J_some (fun h => j_iret rfl (q_zr hz) (hR _ _ h))
        refine J_bind fun w109 hw109 => ?_
        refine J_cl fun _ σ110 hσ110 => ?_
        refine q_J.step (fun g => j_if_t rfl (cc_ne_t h105) (j_iload_n rfl rfl (j_iconst (1 : Int32) rfl k32_1 (j_iload_n rfl rfl (j_ishl rfl (j_ior rfl (j_istore_n [some (.ref v0), some (.int v1), some (.int (v2 ||| ((1 : Int32) <<< (x7 &&& 31)))), some (.int x7)] rfl rfl (Or.inr rfl) rfl (j_aload_n rfl rfl (j_v0 [.ref v0] [] rfl rfl rfl rfl rfl rfl hw109 (Or.inl rfl) (t_Mo_nextToken (by omega) hσ110) (j_iload_n rfl rfl (j_iconst (5 : Int32) rfl k32_5 (g)))))))))))) ?_
        refine J_ite (fun h112 => ?_) (fun h112 => ?_)
        · refine J_bind fun w113 hw113 => ?_
          refine J_cl fun x115 σ114 hσ114 => ?_
          refine q_J.step (fun g => j_icmp_f rfl (cc_ge_f h112) (j_aload_n rfl rfl (j_iload_n rfl rfl (j_iload_n rfl rfl (j_v1 [.ref v0, .int v1, .int x7] [] rfl rfl rfl rfl rfl rfl hw113 (Or.inl rfl) (t_Mo_readsName (by omega) hσ114) (g)))))) ?_
          refine J_ite (fun h116 => ?_) (fun h116 => ?_)
          · exact J_some (fun h => j_if_f rfl (cc_ne_f h116) (j_iconst (0 : Int32) rfl k32_0 (j_iret rfl (q_zr (Or.inl rfl)) (hR _ _ h))))
          refine q_J.step (fun g => j_if_t rfl (cc_ne_t h116) (j_iload_n rfl rfl (j_iconst (4 : Int32) rfl k32_4 (g)))) ?_
          refine J_ite (fun h117 => ?_) (fun h117 => ?_)
          · refine J_bind fun x118 hx118 => ?_
            refine J_bind fun x119 hx119 => ?_
            refine J_bind fun σ120 hσ120 => ?_
            exact q_J.step (fun g => j_icmp_f rfl (cc_le_f h117) (j_aload_n rfl rfl (j_gfr rfl hx118 (j_iload_n rfl rfl (j_dup2 rfl rfl rfl (j_ial rfl hx119 (j_iconst (1 : Int32) rfl k32_1 (j_iload_n rfl rfl (j_iconst (5 : Int32) rfl k32_5 (j_isub rfl (j_ishl rfl (j_ior rfl (j_ias rfl hσ120 (j_goto rfl (j_weak (l := [some (.ref v0), some (.int v1), some (.int (v2 ||| ((1 : Int32) <<< (x7 &&& 31)))), none]) (And.intro (Or.inr rfl) (And.intro (Or.inr rfl) (And.intro (Or.inr rfl) (And.intro (Or.inl rfl) True.intro)))) (g)))))))))))))))) (l_Mo_readsLine_L161 hd v0 v1 hR hX n (v2 ||| ((1 : Int32) <<< (x7 &&& 31))) σ120)
          exact q_J.step (fun g => j_icmp_t rfl (cc_le_t h117) (j_goto rfl (j_weak (l := [some (.ref v0), some (.int v1), some (.int (v2 ||| ((1 : Int32) <<< (x7 &&& 31)))), none]) (And.intro (Or.inr rfl) (And.intro (Or.inr rfl) (And.intro (Or.inr rfl) (And.intro (Or.inl rfl) True.intro)))) (g)))) (l_Mo_readsLine_L161 hd v0 v1 hR hX n (v2 ||| ((1 : Int32) <<< (x7 &&& 31))) σ114)
        refine q_J.step (fun g => j_icmp_t rfl (cc_ge_t h112) (j_iload_n rfl rfl (j_iconst (4 : Int32) rfl k32_4 (g)))) ?_
        refine J_ite (fun h121 => ?_) (fun h121 => ?_)
        · refine J_bind fun x122 hx122 => ?_
          refine J_bind fun x123 hx123 => ?_
          refine J_bind fun σ124 hσ124 => ?_
          exact q_J.step (fun g => j_icmp_f rfl (cc_le_f h121) (j_aload_n rfl rfl (j_gfr rfl hx122 (j_iload_n rfl rfl (j_dup2 rfl rfl rfl (j_ial rfl hx123 (j_iconst (1 : Int32) rfl k32_1 (j_iload_n rfl rfl (j_iconst (5 : Int32) rfl k32_5 (j_isub rfl (j_ishl rfl (j_ior rfl (j_ias rfl hσ124 (j_goto rfl (j_weak (l := [some (.ref v0), some (.int v1), some (.int (v2 ||| ((1 : Int32) <<< (x7 &&& 31)))), none]) (And.intro (Or.inr rfl) (And.intro (Or.inr rfl) (And.intro (Or.inr rfl) (And.intro (Or.inl rfl) True.intro)))) (g)))))))))))))))) (l_Mo_readsLine_L161 hd v0 v1 hR hX n (v2 ||| ((1 : Int32) <<< (x7 &&& 31))) σ124)
        exact q_J.step (fun g => j_icmp_t rfl (cc_le_t h121) (j_goto rfl (j_weak (l := [some (.ref v0), some (.int v1), some (.int (v2 ||| ((1 : Int32) <<< (x7 &&& 31)))), none]) (And.intro (Or.inr rfl) (And.intro (Or.inr rfl) (And.intro (Or.inr rfl) (And.intro (Or.inl rfl) True.intro)))) (g)))) (l_Mo_readsLine_L161 hd v0 v1 hR hX n (v2 ||| ((1 : Int32) <<< (x7 &&& 31))) σ110)
      refine J_bind fun w125 hw125 => ?_
      refine J_cl fun _ σ126 hσ126 => ?_
      refine q_J.step (fun g => j_icmp_t rfl (cc_ne_t h104) (j_iload_n rfl rfl (j_iconst (1 : Int32) rfl k32_1 (j_iload_n rfl rfl (j_ishl rfl (j_ior rfl (j_istore_n [some (.ref v0), some (.int v1), some (.int (v2 ||| ((1 : Int32) <<< (x7 &&& 31)))), some (.int x7)] rfl rfl (Or.inr rfl) rfl (j_aload_n rfl rfl (j_v0 [.ref v0] [] rfl rfl rfl rfl rfl rfl hw125 (Or.inl rfl) (t_Mo_nextToken (by omega) hσ126) (j_iload_n rfl rfl (j_iconst (5 : Int32) rfl k32_5 (g)))))))))))) ?_
      refine J_ite (fun h128 => ?_) (fun h128 => ?_)
      · refine J_bind fun w129 hw129 => ?_
        refine J_cl fun x131 σ130 hσ130 => ?_
        refine q_J.step (fun g => j_icmp_f rfl (cc_ge_f h128) (j_aload_n rfl rfl (j_iload_n rfl rfl (j_iload_n rfl rfl (j_v1 [.ref v0, .int v1, .int x7] [] rfl rfl rfl rfl rfl rfl hw129 (Or.inl rfl) (t_Mo_readsName (by omega) hσ130) (g)))))) ?_
        refine J_ite (fun h132 => ?_) (fun h132 => ?_)
        · exact J_some (fun h => j_if_f rfl (cc_ne_f h132) (j_iconst (0 : Int32) rfl k32_0 (j_iret rfl (q_zr (Or.inl rfl)) (hR _ _ h))))
        refine q_J.step (fun g => j_if_t rfl (cc_ne_t h132) (j_iload_n rfl rfl (j_iconst (4 : Int32) rfl k32_4 (g)))) ?_
        refine J_ite (fun h133 => ?_) (fun h133 => ?_)
        · refine J_bind fun x134 hx134 => ?_
          refine J_bind fun x135 hx135 => ?_
          refine J_bind fun σ136 hσ136 => ?_
          exact q_J.step (fun g => j_icmp_f rfl (cc_le_f h133) (j_aload_n rfl rfl (j_gfr rfl hx134 (j_iload_n rfl rfl (j_dup2 rfl rfl rfl (j_ial rfl hx135 (j_iconst (1 : Int32) rfl k32_1 (j_iload_n rfl rfl (j_iconst (5 : Int32) rfl k32_5 (j_isub rfl (j_ishl rfl (j_ior rfl (j_ias rfl hσ136 (j_goto rfl (j_weak (l := [some (.ref v0), some (.int v1), some (.int (v2 ||| ((1 : Int32) <<< (x7 &&& 31)))), none]) (And.intro (Or.inr rfl) (And.intro (Or.inr rfl) (And.intro (Or.inr rfl) (And.intro (Or.inl rfl) True.intro)))) (g)))))))))))))))) (l_Mo_readsLine_L161 hd v0 v1 hR hX n (v2 ||| ((1 : Int32) <<< (x7 &&& 31))) σ136)
        exact q_J.step (fun g => j_icmp_t rfl (cc_le_t h133) (j_goto rfl (j_weak (l := [some (.ref v0), some (.int v1), some (.int (v2 ||| ((1 : Int32) <<< (x7 &&& 31)))), none]) (And.intro (Or.inr rfl) (And.intro (Or.inr rfl) (And.intro (Or.inr rfl) (And.intro (Or.inl rfl) True.intro)))) (g)))) (l_Mo_readsLine_L161 hd v0 v1 hR hX n (v2 ||| ((1 : Int32) <<< (x7 &&& 31))) σ130)
      refine q_J.step (fun g => j_icmp_t rfl (cc_ge_t h128) (j_iload_n rfl rfl (j_iconst (4 : Int32) rfl k32_4 (g)))) ?_
      refine J_ite (fun h137 => ?_) (fun h137 => ?_)
      · refine J_bind fun x138 hx138 => ?_
        refine J_bind fun x139 hx139 => ?_
        refine J_bind fun σ140 hσ140 => ?_
        exact q_J.step (fun g => j_icmp_f rfl (cc_le_f h137) (j_aload_n rfl rfl (j_gfr rfl hx138 (j_iload_n rfl rfl (j_dup2 rfl rfl rfl (j_ial rfl hx139 (j_iconst (1 : Int32) rfl k32_1 (j_iload_n rfl rfl (j_iconst (5 : Int32) rfl k32_5 (j_isub rfl (j_ishl rfl (j_ior rfl (j_ias rfl hσ140 (j_goto rfl (j_weak (l := [some (.ref v0), some (.int v1), some (.int (v2 ||| ((1 : Int32) <<< (x7 &&& 31)))), none]) (And.intro (Or.inr rfl) (And.intro (Or.inr rfl) (And.intro (Or.inr rfl) (And.intro (Or.inl rfl) True.intro)))) (g)))))))))))))))) (l_Mo_readsLine_L161 hd v0 v1 hR hX n (v2 ||| ((1 : Int32) <<< (x7 &&& 31))) σ140)
      exact q_J.step (fun g => j_icmp_t rfl (cc_le_t h137) (j_goto rfl (j_weak (l := [some (.ref v0), some (.int v1), some (.int (v2 ||| ((1 : Int32) <<< (x7 &&& 31)))), none]) (And.intro (Or.inr rfl) (And.intro (Or.inr rfl) (And.intro (Or.inr rfl) (And.intro (Or.inl rfl) True.intro)))) (g)))) (l_Mo_readsLine_L161 hd v0 v1 hR hX n (v2 ||| ((1 : Int32) <<< (x7 &&& 31))) σ126)
    exact J_some (fun h => j_if_t rfl (cc_ne_t h4) (j_weak (l := [some (.ref v0), none, none, none]) (And.intro (Or.inr rfl) (And.intro (Or.inl rfl) (And.intro (Or.inl rfl) (And.intro (Or.inr rfl) True.intro)))) (hX _ _ h)))

set_option maxRecDepth 100000 in
theorem b_Mo_readsLine {fo : Option Nat} {d : Nat} (hd : 4 ≤ d + 1) {o : q_O} {σ' : q_H} (v0 : Nat) (σ : q_H) : q_J (fun (r : Int32) (σ1 : q_H) => o = .inl (some (.int r)) ∧ σ' = σ1) (f_Mo_readsLine v0 σ) (q_G (q_rf fo) d m_Mo_readsLine o σ' 0 [some (.ref v0), none, none, none] [] σ) := by
  unfold f_Mo_readsLine
  refine J_bind fun x1 hx1 => ?_
  refine J_bind fun x2 hx2 => ?_
  refine J_bind fun x3 hx3 => ?_
  refine J_bind fun w4 hw4 => ?_
  refine J_cl fun x6 σ5 hσ5 => ?_
  refine q_J.step (fun g => j_sipush (288 : Int32) rfl ks_288 (j_aload_n rfl rfl (j_gfr rfl hx1 (j_bipush (24 : Int32) rfl kb_24 (j_ial rfl hx2 (j_iadd rfl (j_istore_n [some (.ref v0), some (.int ((288 : Int32) + x2)), none, none] rfl rfl (Or.inr rfl) rfl (j_iconst (0 : Int32) rfl k32_0 (j_istore_n [some (.ref v0), some (.int ((288 : Int32) + x2)), some (.int (0 : Int32)), none] rfl rfl (Or.inr rfl) rfl (j_aload_n rfl rfl (j_gfr rfl hx3 (j_iload_n rfl rfl (j_aload_n rfl rfl (j_ldc2 (12527906 : Int64) rfl kw_12527906 (g))))))))))))))) ?_
  refine q_J.step (fun g => j_v1 [.ref v0, .long (12527906 : Int64)] [.int ((288 : Int32) + x2), .ref x3] rfl rfl rfl rfl rfl rfl hw4 (Or.inl rfl) (t_Mo_isWord (by omega) hσ5) (g)) ?_
  refine J_sq (fun (t8 : Int32) (σ9 : q_H) => q_G (q_rf fo) d m_Mo_readsLine o σ' 34 [some (.ref v0), some (.int ((288 : Int32) + x2)), some (.int (0 : Int32)), none] [.int t8, .int ((288 : Int32) + x2), .ref x3] σ9) ?_ (fun t8 σ9 => ?_)
  · refine J_ite (fun h7 => ?_) (fun h7 => ?_)
    · exact J_some (fun h => j_if_t rfl (cc_eq_t h7) (j_iconst (0 : Int32) rfl k32_0 (h)))
    exact J_some (fun h => j_if_f rfl (cc_eq_f h7) (j_iconst (1 : Int32) rfl k32_1 (j_goto rfl (h))))
  refine J_bind fun σ10 hσ10 => ?_
  refine J_bind fun x11 hx11 => ?_
  refine J_bind fun σ12 hσ12 => ?_
  refine J_bind fun x13 hx13 => ?_
  refine J_bind fun σ14 hσ14 => ?_
  refine J_bind fun x15 hx15 => ?_
  refine J_bind fun σ16 hσ16 => ?_
  refine J_bind fun x17 hx17 => ?_
  refine J_bind fun σ18 hσ18 => ?_
  refine J_bind fun x19 hx19 => ?_
  refine J_bind fun σ20 hσ20 => ?_
  refine J_bind fun w21 hw21 => ?_
  refine J_cl fun _ σ22 hσ22 => ?_
  refine J_bind fun w24 hw24 => ?_
  refine J_cl fun x26 σ25 hσ25 => ?_
  refine q_J.step (fun g => j_ias rfl hσ10 (j_aload_n rfl rfl (j_gfr rfl hx11 (j_iload_n rfl rfl (j_iconst (-1 : Int32) rfl k32_m1 (j_ias rfl hσ12 (j_aload_n rfl rfl (j_gfr rfl hx13 (j_iload_n rfl rfl (j_iconst (-1 : Int32) rfl k32_m1 (j_ias rfl hσ14 (j_aload_n rfl rfl (j_gfr rfl hx15 (j_iload_n rfl rfl (g))))))))))))))) ?_
  refine q_J.step (fun g => j_iconst (0 : Int32) rfl k32_0 (j_ias rfl hσ16 (j_aload_n rfl rfl (j_gfr rfl hx17 (j_iload_n rfl rfl (j_lconst (0 : Int64) rfl kl_0 (j_las rfl hσ18 (j_aload_n rfl rfl (j_gfr rfl hx19 (j_iload_n rfl rfl (j_lconst (0 : Int64) rfl kl_0 (j_las rfl hσ20 (j_aload_n rfl rfl (j_v0 [.ref v0] [] rfl rfl rfl rfl rfl rfl hw21 (Or.inl rfl) (t_Mo_nextToken (by omega) hσ22) (g))))))))))))))) ?_
  refine q_J.step (fun g => j_aload_n rfl rfl (j_v1 [.ref v0] [] rfl rfl rfl rfl rfl rfl hw24 (Or.inl rfl) (t_Mo_isName (by omega) hσ25) (g))) ?_
  refine J_ite (fun h27 => ?_) (fun h27 => ?_)
  · refine J_bind fun w28 hw28 => ?_
    refine J_cl fun x30 σ29 hσ29 => ?_
    refine q_J.step (fun g => j_if_f rfl (cc_ne_f h27) (j_aload_n rfl rfl (j_iconst (1 : Int32) rfl k32_1 (j_v1 [.ref v0, .int (1 : Int32)] [] rfl rfl rfl rfl rfl rfl hw28 (Or.inl rfl) (t_Mo_errs (by omega) hσ29) (g))))) ?_
    refine J_ite (fun _ => J_none) (fun hz => ?_)
    replace hz := Decidable.not_not.mp hz
    exact J_some (fun h => j_iret rfl (q_zr hz) h)
  refine J_bind fun x31 hx31 => ?_
  refine J_bind fun w32 hw32 => ?_
  refine J_cl fun x34 σ33 hσ33 => ?_
  refine q_J.step (fun g => j_if_t rfl (cc_ne_t h27) (j_aload_n rfl rfl (j_aload_n rfl rfl (j_gfl rfl hx31 (j_v1 [.ref v0, .long x31] [] rfl rfl rfl rfl rfl rfl hw32 (Or.inl rfl) (t_Mo_lineOf (by omega) hσ33) (g)))))) ?_
  refine J_ite (fun h35 => ?_) (fun h35 => ?_)
  · refine J_bind fun x36 hx36 => ?_
    refine J_bind fun x37 hx37 => ?_
    refine J_bind fun σ38 hσ38 => ?_
    refine J_bind fun w39 hw39 => ?_
    refine J_cl fun _ σ40 hσ40 => ?_
    refine J_bind fun x42 hx42 => ?_
    refine q_J.step (fun g => j_if_t rfl (cc_lt_t h35) (j_aload_n rfl rfl (j_gfr rfl hx36 (j_iload_n rfl rfl (j_aload_n rfl rfl (j_gfl rfl hx37 (j_las rfl hσ38 (j_aload_n rfl rfl (j_v0 [.ref v0] [] rfl rfl rfl rfl rfl rfl hw39 (Or.inl rfl) (t_Mo_nextToken (by omega) hσ40) (j_aload_n rfl rfl (j_gfi rfl hx42 (j_iconst (2 : Int32) rfl k32_2 (g))))))))))))) ?_
    refine J_ite (fun h43 => ?_) (fun h43 => ?_)
    · refine J_bind fun x44 hx44 => ?_
      refine q_J.step (fun g => j_icmp_t rfl (cc_eq_t h43) (j_aload_n rfl rfl (j_gfi rfl hx44 (j_bipush (120 : Int32) rfl kb_120 (g))))) ?_
      refine J_ite (fun h45 => ?_) (fun h45 => ?_)
      · refine J_bind fun w46 hw46 => ?_
        refine J_cl fun x48 σ47 hσ47 => ?_
        refine q_J.step (fun g => j_icmp_f rfl (cc_le_f h45) (j_aload_n rfl rfl (j_iconst (4 : Int32) rfl k32_4 (j_v1 [.ref v0, .int (4 : Int32)] [] rfl rfl rfl rfl rfl rfl hw46 (Or.inl rfl) (t_Mo_errs (by omega) hσ47) (g))))) ?_
        refine J_ite (fun _ => J_none) (fun hz => ?_)
        replace hz := Decidable.not_not.mp hz
        exact J_some (fun h => j_iret rfl (q_zr hz) h)
      refine J_bind fun x49 hx49 => ?_
      refine J_bind fun x50 hx50 => ?_
      refine J_bind fun σ51 hσ51 => ?_
      refine J_bind fun w52 hw52 => ?_
      refine J_cl fun _ σ53 hσ53 => ?_
      refine J_sq (fun (t0 : Int32 ⊕ Unit) (σ56 : q_H) => match t0 with | .inl r => o = .inl (some (.int r)) ∧ σ' = σ56 | .inr t55 => q_G (q_rf fo) d m_Mo_readsLine o σ' 287 [some (.ref v0), none, none, none] [] σ56) (q_J.step (fun g => j_icmp_t rfl (cc_le_t h45) (j_aload_n rfl rfl (j_gfr rfl hx49 (j_iload_n rfl rfl (j_aload_n rfl rfl (j_gfi rfl hx50 (j_ias rfl hσ51 (j_aload_n rfl rfl (j_v0 [.ref v0] [] rfl rfl rfl rfl rfl rfl hw52 (Or.inl rfl) (t_Mo_nextToken (by omega) hσ53) (g)))))))))) (l_Mo_readsLine_L161 hd v0 ((288 : Int32) + x2) (fun _ _ h => h) (fun _ _ h => h) q_FU (0 : Int32) σ53)) (fun t0 σ56 => ?_)
      cases t0 with
      | inl r63 => exact J_some (fun h => h)
      | inr t55 =>
        refine J_bind fun w57 hw57 => ?_
        refine J_cl fun _ σ58 hσ58 => ?_
        refine J_bind fun x60 hx60 => ?_
        refine J_bind fun x61 hx61 => ?_
        refine J_bind fun σ62 hσ62 => ?_
        exact J_some (fun h => j_aload_n rfl rfl (j_v0 [.ref v0] [] rfl rfl rfl rfl rfl rfl hw57 (Or.inl rfl) (t_Mo_nextToken (by omega) hσ58) (j_aload_n rfl rfl (j_gfr rfl hx60 (j_bipush (24 : Int32) rfl kb_24 (j_dup2 rfl rfl rfl (j_ial rfl hx61 (j_iconst (1 : Int32) rfl k32_1 (j_iadd rfl (j_ias rfl hσ62 (j_iconst (1 : Int32) rfl k32_1 (j_iret rfl (q_zr (Or.inr rfl)) h))))))))))))
    refine J_bind fun w64 hw64 => ?_
    refine J_cl fun x66 σ65 hσ65 => ?_
    refine q_J.step (fun g => j_icmp_f rfl (cc_eq_f h43) (j_aload_n rfl rfl (j_iconst (1 : Int32) rfl k32_1 (j_v1 [.ref v0, .int (1 : Int32)] [] rfl rfl rfl rfl rfl rfl hw64 (Or.inl rfl) (t_Mo_errs (by omega) hσ65) (g))))) ?_
    refine J_ite (fun _ => J_none) (fun hz => ?_)
    replace hz := Decidable.not_not.mp hz
    exact J_some (fun h => j_iret rfl (q_zr hz) h)
  refine J_bind fun w67 hw67 => ?_
  refine J_cl fun x69 σ68 hσ68 => ?_
  refine q_J.step (fun g => j_if_f rfl (cc_lt_f h35) (j_aload_n rfl rfl (j_iconst (3 : Int32) rfl k32_3 (j_v1 [.ref v0, .int (3 : Int32)] [] rfl rfl rfl rfl rfl rfl hw67 (Or.inl rfl) (t_Mo_errs (by omega) hσ68) (g))))) ?_
  refine J_ite (fun _ => J_none) (fun hz => ?_)
  replace hz := Decidable.not_not.mp hz
  exact J_some (fun h => j_iret rfl (q_zr hz) h)
theorem t_Mo_readsLine {fo : Option Nat} {d : Nat} (hd : 4 ≤ d) {v0 : Nat} {σ σ1 : q_H} {r : Int32} (h : f_Mo_readsLine v0 σ = some (r, σ1)) : q_Rel (q_rf fo) q_Ms d 189 [.ref v0] σ (.inl (some (.int r))) σ1 := by
  obtain ⟨d, rfl⟩ : ∃ d1, d = d1 + 1 := ⟨d - 1, by omega⟩
  exact q_Rel.of rfl rfl (b_Mo_readsLine hd _ σ _ _ h ⟨rfl, rfl⟩)

set_option maxRecDepth 100000 in
theorem b_Mo_isIn {fo : Option Nat} {d : Nat} (hd : 4 ≤ d + 1) {o : q_O} {σ' : q_H} (v0 : Nat) (v1 : Int32) (v2 : Int32) (v3 : Int32) (σ : q_H) : q_J (fun (r : Int32) (σ1 : q_H) => o = .inl (some (.int r)) ∧ σ' = σ1) (f_Mo_isIn v0 v1 v2 v3 σ) (q_G (q_rf fo) d m_Mo_isIn o σ' 0 [some (.ref v0), some (.int v1), some (.int v2), some (.int v3)] [] σ) := by
  unfold f_Mo_isIn
  refine J_bind fun w1 hw1 => ?_
  refine J_cl fun x3 σ2 hσ2 => ?_
  refine q_J.step (fun g => j_aload_n rfl rfl (j_iload_n rfl rfl (j_v1 [.ref v0, .int v1] [] rfl rfl rfl rfl rfl rfl hw1 (Or.inl rfl) (t_Mo_isThere (by omega) hσ2) (g)))) ?_
  refine J_ite (fun h4 => ?_) (fun h4 => ?_)
  · exact J_some (fun h => j_if_t rfl (cc_eq_t h4) (j_iconst (0 : Int32) rfl k32_0 (j_iret rfl (q_zr (Or.inl rfl)) h)))
  refine q_J.step (fun g => j_if_f rfl (cc_eq_f h4) (j_iload_n rfl rfl (g))) ?_
  refine J_ite (fun h5 => ?_) (fun h5 => ?_)
  · exact J_some (fun h => j_if_t rfl (cc_eq_t h5) (j_iconst (1 : Int32) rfl k32_1 (j_goto rfl (j_iret rfl (q_zr (Or.inr rfl)) h))))
  refine q_J.step (fun g => j_if_f rfl (cc_eq_f h5) (j_iload_n rfl rfl (j_iconst (1 : Int32) rfl k32_1 (g)))) ?_
  refine J_ite (fun h6 => ?_) (fun h6 => ?_)
  · refine J_bind fun x7 hx7 => ?_
    refine J_bind fun x8 hx8 => ?_
    refine q_J.step (fun g => j_icmp_f rfl (cc_ne_f h6) (j_aload_n rfl rfl (j_gfr rfl hx7 (j_iload_n rfl rfl (j_ial rfl hx8 (j_iload_n rfl rfl (g))))))) ?_
    refine J_ite (fun h9 => ?_) (fun h9 => ?_)
    · exact J_some (fun h => j_icmp_t rfl (cc_eq_t h9) (j_iconst (1 : Int32) rfl k32_1 (j_goto rfl (j_iret rfl (q_zr (Or.inr rfl)) h))))
    refine q_J.step (fun g => j_icmp_f rfl (cc_eq_f h9) (j_iload_n rfl rfl (j_iconst (2 : Int32) rfl k32_2 (g)))) ?_
    refine J_ite (fun h10 => ?_) (fun h10 => ?_)
    · refine J_bind fun x11 hx11 => ?_
      refine J_bind fun x12 hx12 => ?_
      refine q_J.step (fun g => j_icmp_f rfl (cc_ne_f h10) (j_aload_n rfl rfl (j_gfr rfl hx11 (j_iload_n rfl rfl (j_ial rfl hx12 (j_iload_n rfl rfl (g))))))) ?_
      refine J_ite (fun h13 => ?_) (fun h13 => ?_)
      · exact J_some (fun h => j_icmp_t rfl (cc_eq_t h13) (j_iconst (1 : Int32) rfl k32_1 (j_goto rfl (j_iret rfl (q_zr (Or.inr rfl)) h))))
      refine q_J.step (fun g => j_icmp_f rfl (cc_eq_f h13) (j_iload_n rfl rfl (j_iconst (3 : Int32) rfl k32_3 (g)))) ?_
      refine J_ite (fun h14 => ?_) (fun h14 => ?_)
      · refine J_bind fun x15 hx15 => ?_
        refine J_bind fun x16 hx16 => ?_
        refine J_bind fun x17 hx17 => ?_
        refine J_bind fun x18 hx18 => ?_
        refine q_J.step (fun g => j_icmp_f rfl (cc_ne_f h14) (j_aload_n rfl rfl (j_gfr rfl hx15 (j_aload_n rfl rfl (j_gfr rfl hx16 (j_iload_n rfl rfl (j_ial rfl hx17 (j_ial rfl hx18 (j_iload_n rfl rfl (g)))))))))) ?_
        refine J_ite (fun h19 => ?_) (fun h19 => ?_)
        · exact J_some (fun h => j_icmp_f rfl (cc_ne_f h19) (j_iconst (1 : Int32) rfl k32_1 (j_goto rfl (j_iret rfl (q_zr (Or.inr rfl)) h))))
        exact J_some (fun h => j_icmp_t rfl (cc_ne_t h19) (j_iconst (0 : Int32) rfl k32_0 (j_iret rfl (q_zr (Or.inl rfl)) h)))
      exact J_some (fun h => j_icmp_t rfl (cc_ne_t h14) (j_iconst (0 : Int32) rfl k32_0 (j_iret rfl (q_zr (Or.inl rfl)) h)))
    refine q_J.step (fun g => j_icmp_t rfl (cc_ne_t h10) (j_iload_n rfl rfl (j_iconst (3 : Int32) rfl k32_3 (g)))) ?_
    refine J_ite (fun h20 => ?_) (fun h20 => ?_)
    · refine J_bind fun x21 hx21 => ?_
      refine J_bind fun x22 hx22 => ?_
      refine J_bind fun x23 hx23 => ?_
      refine J_bind fun x24 hx24 => ?_
      refine q_J.step (fun g => j_icmp_f rfl (cc_ne_f h20) (j_aload_n rfl rfl (j_gfr rfl hx21 (j_aload_n rfl rfl (j_gfr rfl hx22 (j_iload_n rfl rfl (j_ial rfl hx23 (j_ial rfl hx24 (j_iload_n rfl rfl (g)))))))))) ?_
      refine J_ite (fun h25 => ?_) (fun h25 => ?_)
      · exact J_some (fun h => j_icmp_f rfl (cc_ne_f h25) (j_iconst (1 : Int32) rfl k32_1 (j_goto rfl (j_iret rfl (q_zr (Or.inr rfl)) h))))
      exact J_some (fun h => j_icmp_t rfl (cc_ne_t h25) (j_iconst (0 : Int32) rfl k32_0 (j_iret rfl (q_zr (Or.inl rfl)) h)))
    exact J_some (fun h => j_icmp_t rfl (cc_ne_t h20) (j_iconst (0 : Int32) rfl k32_0 (j_iret rfl (q_zr (Or.inl rfl)) h)))
  refine q_J.step (fun g => j_icmp_t rfl (cc_ne_t h6) (j_iload_n rfl rfl (j_iconst (2 : Int32) rfl k32_2 (g)))) ?_
  refine J_ite (fun h26 => ?_) (fun h26 => ?_)
  · refine J_bind fun x27 hx27 => ?_
    refine J_bind fun x28 hx28 => ?_
    refine q_J.step (fun g => j_icmp_f rfl (cc_ne_f h26) (j_aload_n rfl rfl (j_gfr rfl hx27 (j_iload_n rfl rfl (j_ial rfl hx28 (j_iload_n rfl rfl (g))))))) ?_
    refine J_ite (fun h29 => ?_) (fun h29 => ?_)
    · exact J_some (fun h => j_icmp_t rfl (cc_eq_t h29) (j_iconst (1 : Int32) rfl k32_1 (j_goto rfl (j_iret rfl (q_zr (Or.inr rfl)) h))))
    refine q_J.step (fun g => j_icmp_f rfl (cc_eq_f h29) (j_iload_n rfl rfl (j_iconst (3 : Int32) rfl k32_3 (g)))) ?_
    refine J_ite (fun h30 => ?_) (fun h30 => ?_)
    · refine J_bind fun x31 hx31 => ?_
      refine J_bind fun x32 hx32 => ?_
      refine J_bind fun x33 hx33 => ?_
      refine J_bind fun x34 hx34 => ?_
      refine q_J.step (fun g => j_icmp_f rfl (cc_ne_f h30) (j_aload_n rfl rfl (j_gfr rfl hx31 (j_aload_n rfl rfl (j_gfr rfl hx32 (j_iload_n rfl rfl (j_ial rfl hx33 (j_ial rfl hx34 (j_iload_n rfl rfl (g)))))))))) ?_
      refine J_ite (fun h35 => ?_) (fun h35 => ?_)
      · exact J_some (fun h => j_icmp_f rfl (cc_ne_f h35) (j_iconst (1 : Int32) rfl k32_1 (j_goto rfl (j_iret rfl (q_zr (Or.inr rfl)) h))))
      exact J_some (fun h => j_icmp_t rfl (cc_ne_t h35) (j_iconst (0 : Int32) rfl k32_0 (j_iret rfl (q_zr (Or.inl rfl)) h)))
    exact J_some (fun h => j_icmp_t rfl (cc_ne_t h30) (j_iconst (0 : Int32) rfl k32_0 (j_iret rfl (q_zr (Or.inl rfl)) h)))
  refine q_J.step (fun g => j_icmp_t rfl (cc_ne_t h26) (j_iload_n rfl rfl (j_iconst (3 : Int32) rfl k32_3 (g)))) ?_
  refine J_ite (fun h36 => ?_) (fun h36 => ?_)
  · refine J_bind fun x37 hx37 => ?_
    refine J_bind fun x38 hx38 => ?_
    refine J_bind fun x39 hx39 => ?_
    refine J_bind fun x40 hx40 => ?_
    refine q_J.step (fun g => j_icmp_f rfl (cc_ne_f h36) (j_aload_n rfl rfl (j_gfr rfl hx37 (j_aload_n rfl rfl (j_gfr rfl hx38 (j_iload_n rfl rfl (j_ial rfl hx39 (j_ial rfl hx40 (j_iload_n rfl rfl (g)))))))))) ?_
    refine J_ite (fun h41 => ?_) (fun h41 => ?_)
    · exact J_some (fun h => j_icmp_f rfl (cc_ne_f h41) (j_iconst (1 : Int32) rfl k32_1 (j_goto rfl (j_iret rfl (q_zr (Or.inr rfl)) h))))
    exact J_some (fun h => j_icmp_t rfl (cc_ne_t h41) (j_iconst (0 : Int32) rfl k32_0 (j_iret rfl (q_zr (Or.inl rfl)) h)))
  exact J_some (fun h => j_icmp_t rfl (cc_ne_t h36) (j_iconst (0 : Int32) rfl k32_0 (j_iret rfl (q_zr (Or.inl rfl)) h)))
theorem t_Mo_isIn {fo : Option Nat} {d : Nat} (hd : 4 ≤ d) {v0 : Nat} {v1 : Int32} {v2 : Int32} {v3 : Int32} {σ σ1 : q_H} {r : Int32} (h : f_Mo_isIn v0 v1 v2 v3 σ = some (r, σ1)) : q_Rel (q_rf fo) q_Ms d 206 [.ref v0, .int v1, .int v2, .int v3] σ (.inl (some (.int r))) σ1 := by
  obtain ⟨d, rfl⟩ : ∃ d1, d = d1 + 1 := ⟨d - 1, by omega⟩
  exact q_Rel.of rfl rfl (b_Mo_isIn hd _ _ _ _ σ _ _ h ⟨rfl, rfl⟩)

set_option maxRecDepth 100000 in
theorem l_Mo_oneOf_L48 {fo : Option Nat} {d : Nat} (hd : 4 ≤ d + 1) {o : q_O} {σ' : q_H} {E : (Int32 ⊕ Unit) → q_H → Prop} (v0 : Nat) (v1 : Int32) (v2 : Int32) (v3 : Int32) (hR : ∀ r σ1, E (.inl r) σ1 → o = .inl (some (.int r)) ∧ σ' = σ1) (hX : ∀ (t : Unit) σ1, E (.inr t) σ1 → q_G (q_rf fo) d m_Mo_oneOf o σ' 80 [none, none, none, none, none] [] σ1)  : ∀ (n : Nat) (v4 : Int32) (σ : q_H), q_J E (f_Mo_oneOf_L48 v0 v1 v2 v3 n v4 σ) (q_G (q_rf fo) d m_Mo_oneOf o σ' 48 [some (.ref v0), some (.int v1), some (.int v2), some (.int v3), some (.int v4)] [] σ)
  | 0, v4, σ => J_none
  | n + 1, v4, σ => by
    unfold f_Mo_oneOf_L48
    refine J_bind fun x1 hx1 => ?_
    refine J_bind fun x2 hx2 => ?_
    refine q_J.step (fun g => j_iload rfl rfl (j_aload_n rfl rfl (j_gfr rfl hx1 (j_iload_n rfl rfl (j_ial rfl hx2 (g)))))) ?_
    refine J_ite (fun h3 => ?_) (fun h3 => ?_)
    · refine J_bind fun w4 hw4 => ?_
      refine J_cl fun x6 σ5 hσ5 => ?_
      refine q_J.step (fun g => j_icmp_f rfl (cc_ge_f h3) (j_aload_n rfl rfl (j_iload_n rfl rfl (j_iload_n rfl rfl (j_iload_n rfl rfl (j_iload rfl rfl (j_v1 [.ref v0, .int v1, .int v2, .int v3, .int v4] [] rfl rfl rfl rfl rfl rfl hw4 (Or.inl rfl) (t_Mo_isOne (by omega) hσ5) (g)))))))) ?_
      refine J_ite (fun h7 => ?_) (fun h7 => ?_)
      · exact q_J.step (fun g => j_if_t rfl (cc_eq_t h7) (j_iinc [some (.ref v0), some (.int v1), some (.int v2), some (.int v3), some (.int (v4 + (1 : Int32)))] (v4 + (1 : Int32)) rfl rfl (by rw [k32_1]) (Or.inr rfl) rfl (j_goto rfl (g)))) (l_Mo_oneOf_L48 hd v0 v1 v2 v3 hR hX n (v4 + (1 : Int32)) σ5)
      exact J_some (fun h => j_if_f rfl (cc_eq_f h7) (j_iload rfl rfl (j_iret rfl rfl (hR _ _ h))))
    exact J_some (fun h => j_icmp_t rfl (cc_ge_t h3) (j_weak (l := [none, none, none, none, none]) (And.intro (Or.inl rfl) (And.intro (Or.inl rfl) (And.intro (Or.inl rfl) (And.intro (Or.inl rfl) (And.intro (Or.inl rfl) True.intro))))) (hX _ _ h)))

set_option maxRecDepth 100000 in
theorem b_Mo_oneOf {fo : Option Nat} {d : Nat} (hd : 4 ≤ d + 1) {o : q_O} {σ' : q_H} (v0 : Nat) (v1 : Int32) (v2 : Int32) (v3 : Int32) (σ : q_H) : q_J (fun (r : Int32) (σ1 : q_H) => o = .inl (some (.int r)) ∧ σ' = σ1) (f_Mo_oneOf v0 v1 v2 v3 σ) (q_G (q_rf fo) d m_Mo_oneOf o σ' 0 [some (.ref v0), some (.int v1), some (.int v2), some (.int v3), none] [] σ) := by
  unfold f_Mo_oneOf
  refine J_bind fun w1 hw1 => ?_
  refine J_cl fun x3 σ2 hσ2 => ?_
  refine q_J.step (fun g => j_aload_n rfl rfl (j_iload_n rfl rfl (j_v1 [.ref v0, .int v3] [] rfl rfl rfl rfl rfl rfl hw1 (Or.inl rfl) (t_Mo_isThere (by omega) hσ2) (g)))) ?_
  refine J_ite (fun h4 => ?_) (fun h4 => ?_)
  · exact J_some (fun h => j_if_t rfl (cc_eq_t h4) (j_iconst (-1 : Int32) rfl k32_m1 (j_iret rfl rfl h)))
  refine q_J.step (fun g => j_if_f rfl (cc_eq_f h4) (j_iload_n rfl rfl (j_iload_n rfl rfl (g)))) ?_
  refine J_ite (fun h5 => ?_) (fun h5 => ?_)
  · exact J_some (fun h => j_icmp_t rfl (cc_eq_t h5) (j_iconst (-1 : Int32) rfl k32_m1 (j_iret rfl rfl h)))
  refine J_bind fun x6 hx6 => ?_
  refine J_bind fun x7 hx7 => ?_
  refine J_bind fun x8 hx8 => ?_
  refine J_bind fun x9 hx9 => ?_
  refine q_J.step (fun g => j_icmp_f rfl (cc_eq_f h5) (j_aload_n rfl rfl (j_gfr rfl hx6 (j_iload_n rfl rfl (j_ial rfl hx7 (j_aload_n rfl rfl (j_gfr rfl hx8 (j_iload_n rfl rfl (j_ial rfl hx9 (g)))))))))) ?_
  refine J_ite (fun h10 => ?_) (fun h10 => ?_)
  · refine J_bind fun x11 hx11 => ?_
    refine J_bind fun x12 hx12 => ?_
    refine J_bind fun x13 hx13 => ?_
    refine J_bind fun x14 hx14 => ?_
    refine q_J.step (fun g => j_icmp_f rfl (cc_ne_f h10) (j_aload_n rfl rfl (j_gfr rfl hx11 (j_iload_n rfl rfl (j_ial rfl hx12 (j_aload_n rfl rfl (j_gfr rfl hx13 (j_iload_n rfl rfl (j_ial rfl hx14 (g)))))))))) ?_
    refine J_ite (fun h15 => ?_) (fun h15 => ?_)
    · exact J_some (fun h => j_icmp_f rfl (cc_ne_f h15) (j_iconst (-1 : Int32) rfl k32_m1 (j_iret rfl rfl h)))
    refine J_sq (fun (t0 : Int32 ⊕ Unit) (σ17 : q_H) => match t0 with | .inl r => o = .inl (some (.int r)) ∧ σ' = σ17 | .inr t16 => q_G (q_rf fo) d m_Mo_oneOf o σ' 80 [none, none, none, none, none] [] σ17) (q_J.step (fun g => j_icmp_t rfl (cc_ne_t h15) (j_iconst (0 : Int32) rfl k32_0 (j_istore [some (.ref v0), some (.int v1), some (.int v2), some (.int v3), some (.int (0 : Int32))] rfl rfl (Or.inr rfl) rfl (g)))) (l_Mo_oneOf_L48 hd v0 v1 v2 v3 (fun _ _ h => h) (fun _ _ h => h) q_FU (0 : Int32) σ2)) (fun t0 σ17 => ?_)
    cases t0 with
    | inl r18 => exact J_some (fun h => h)
    | inr t16 =>
      exact J_some (fun h => j_iconst (-1 : Int32) rfl k32_m1 (j_iret rfl rfl h))
  exact J_some (fun h => j_icmp_t rfl (cc_ne_t h10) (j_iconst (-1 : Int32) rfl k32_m1 (j_iret rfl rfl h)))
theorem t_Mo_oneOf {fo : Option Nat} {d : Nat} (hd : 4 ≤ d) {v0 : Nat} {v1 : Int32} {v2 : Int32} {v3 : Int32} {σ σ1 : q_H} {r : Int32} (h : f_Mo_oneOf v0 v1 v2 v3 σ = some (r, σ1)) : q_Rel (q_rf fo) q_Ms d 220 [.ref v0, .int v1, .int v2, .int v3] σ (.inl (some (.int r))) σ1 := by
  obtain ⟨d, rfl⟩ : ∃ d1, d = d1 + 1 := ⟨d - 1, by omega⟩
  exact q_Rel.of rfl rfl (b_Mo_oneOf hd _ _ _ _ σ _ _ h ⟨rfl, rfl⟩)

set_option maxRecDepth 100000 in
theorem l_Mo_fitOf_L2 {fo : Option Nat} {d : Nat} (hd : 4 ≤ d + 1) {o : q_O} {σ' : q_H} {E : (Unit) → q_H → Prop} (v0 : Nat) (v1 : Int32) (v2 : Int32) (hX : ∀ (t : Unit) σ1, E (t) σ1 → q_G (q_rf fo) d m_Mo_fitOf o σ' 21 [some (.ref v0), some (.int v1), some (.int v2), none, none, none, none, none, none, none, none, none] [] σ1)  : ∀ (n : Nat) (v3 : Int32) (σ : q_H), q_J E (f_Mo_fitOf_L2 v0 v1 v2 n v3 σ) (q_G (q_rf fo) d m_Mo_fitOf o σ' 2 [some (.ref v0), some (.int v1), some (.int v2), some (.int v3), none, none, none, none, none, none, none, none] [] σ)
  | 0, v3, σ => J_none
  | n + 1, v3, σ => by
    unfold f_Mo_fitOf_L2
    refine q_J.step (fun g => j_iload_n rfl rfl (j_bipush (17 : Int32) rfl kb_17 (g))) ?_
    refine J_ite (fun h1 => ?_) (fun h1 => ?_)
    · refine J_bind fun x2 hx2 => ?_
      refine J_bind fun σ3 hσ3 => ?_
      exact q_J.step (fun g => j_icmp_f rfl (cc_ge_f h1) (j_aload_n rfl rfl (j_gfr rfl hx2 (j_iload_n rfl rfl (j_iconst (0 : Int32) rfl k32_0 (j_ias rfl hσ3 (j_iinc [some (.ref v0), some (.int v1), some (.int v2), some (.int (v3 + (1 : Int32))), none, none, none, none, none, none, none, none] (v3 + (1 : Int32)) rfl rfl (by rw [k32_1]) (Or.inr rfl) rfl (j_goto rfl (g))))))))) (l_Mo_fitOf_L2 hd v0 v1 v2 hX n (v3 + (1 : Int32)) σ3)
    exact J_some (fun h => j_icmp_t rfl (cc_ge_t h1) (j_weak (l := [some (.ref v0), some (.int v1), some (.int v2), none, none, none, none, none, none, none, none, none]) (And.intro (Or.inr rfl) (And.intro (Or.inr rfl) (And.intro (Or.inr rfl) (And.intro (Or.inl rfl) (And.intro (Or.inr rfl) (And.intro (Or.inr rfl) (And.intro (Or.inr rfl) (And.intro (Or.inr rfl) (And.intro (Or.inr rfl) (And.intro (Or.inr rfl) (And.intro (Or.inr rfl) (And.intro (Or.inr rfl) True.intro)))))))))))) (hX _ _ h)))

set_option maxRecDepth 100000 in
theorem l_Mo_fitOf_L35 {fo : Option Nat} {d : Nat} (hd : 4 ≤ d + 1) {o : q_O} {σ' : q_H} {E : (Unit) → q_H → Prop} (v0 : Nat) (v1 : Int32) (v2 : Int32) (v3 : Int32) (hX : ∀ (t : Unit) σ1, E (t) σ1 → q_G (q_rf fo) d m_Mo_fitOf o σ' 100 [some (.ref v0), some (.int v1), some (.int v2), some (.int v3), none, none, none, none, none, none, none, none] [] σ1)  : ∀ (n : Nat) (v4 : Int32) (σ : q_H), q_J E (f_Mo_fitOf_L35 v0 v1 v2 v3 n v4 σ) (q_G (q_rf fo) d m_Mo_fitOf o σ' 35 [some (.ref v0), some (.int v1), some (.int v2), some (.int v3), some (.int v4), none, none, none, none, none, none, none] [] σ)
  | 0, v4, σ => J_none
  | n + 1, v4, σ => by
    unfold f_Mo_fitOf_L35
    refine J_bind fun w1 hw1 => ?_
    refine J_cl fun x3 σ2 hσ2 => ?_
    refine q_J.step (fun g => j_aload_n rfl rfl (j_iload_n rfl rfl (j_v1 [.ref v0, .int v3] [] rfl rfl rfl rfl rfl rfl hw1 (Or.inl rfl) (t_Mo_isThere (by omega) hσ2) (g)))) ?_
    refine J_ite (fun h4 => ?_) (fun h4 => ?_)
    · exact J_some (fun h => j_if_t rfl (cc_eq_t h4) (j_weak (l := [some (.ref v0), some (.int v1), some (.int v2), some (.int v3), none, none, none, none, none, none, none, none]) (And.intro (Or.inr rfl) (And.intro (Or.inr rfl) (And.intro (Or.inr rfl) (And.intro (Or.inr rfl) (And.intro (Or.inl rfl) (And.intro (Or.inr rfl) (And.intro (Or.inr rfl) (And.intro (Or.inr rfl) (And.intro (Or.inr rfl) (And.intro (Or.inr rfl) (And.intro (Or.inr rfl) (And.intro (Or.inr rfl) True.intro)))))))))))) (hX _ _ h)))
    refine J_bind fun x5 hx5 => ?_
    refine J_bind fun x6 hx6 => ?_
    refine q_J.step (fun g => j_if_f rfl (cc_eq_f h4) (j_iload rfl rfl (j_bipush (12 : Int32) rfl kb_12 (j_iload_n rfl rfl (j_imul rfl (j_aload_n rfl rfl (j_gfr rfl hx5 (j_iload_n rfl rfl (j_ial rfl hx6 (j_iadd rfl (g))))))))))) ?_
    refine J_ite (fun h7 => ?_) (fun h7 => ?_)
    · refine J_bind fun x8 hx8 => ?_
      refine J_bind fun x9 hx9 => ?_
      refine J_bind fun x10 hx10 => ?_
      refine q_J.step (fun g => j_icmp_f rfl (cc_ge_f h7) (j_aload_n rfl rfl (j_gfr rfl hx8 (j_aload_n rfl rfl (j_gfr rfl hx9 (j_iload rfl rfl (j_ial rfl hx10 (j_bipush (80 : Int32) rfl kb_80 (g))))))))) ?_
      refine J_ite (fun h11 => ?_) (fun h11 => ?_)
      · refine J_bind fun x12 hx12 => ?_
        refine J_bind fun x13 hx13 => ?_
        refine J_bind fun x14 hx14 => ?_
        refine J_bind fun σ15 hσ15 => ?_
        exact q_J.step (fun g => j_icmp_t rfl (cc_lt_t h11) (j_aload_n rfl rfl (j_gfr rfl hx12 (j_iload rfl rfl (j_ial rfl hx13 (j_iconst (5 : Int32) rfl k32_5 (j_idiv rfl (by decide) (j_dup2 rfl rfl rfl (j_ial rfl hx14 (j_iconst (1 : Int32) rfl k32_1 (j_iadd rfl (j_ias rfl hσ15 (j_iinc [some (.ref v0), some (.int v1), some (.int v2), some (.int v3), some (.int (v4 + (1 : Int32))), none, none, none, none, none, none, none] (v4 + (1 : Int32)) rfl rfl (by rw [k32_1]) (Or.inr rfl) rfl (j_goto rfl (g))))))))))))))) (l_Mo_fitOf_L35 hd v0 v1 v2 v3 hX n (v4 + (1 : Int32)) σ15)
      refine J_bind fun x16 hx16 => ?_
      refine J_bind fun σ17 hσ17 => ?_
      exact q_J.step (fun g => j_icmp_f rfl (cc_lt_f h11) (j_bipush (16 : Int32) rfl kb_16 (j_goto rfl (j_dup2 rfl rfl rfl (j_ial rfl hx16 (j_iconst (1 : Int32) rfl k32_1 (j_iadd rfl (j_ias rfl hσ17 (j_iinc [some (.ref v0), some (.int v1), some (.int v2), some (.int v3), some (.int (v4 + (1 : Int32))), none, none, none, none, none, none, none] (v4 + (1 : Int32)) rfl rfl (by rw [k32_1]) (Or.inr rfl) rfl (j_goto rfl (g))))))))))) (l_Mo_fitOf_L35 hd v0 v1 v2 v3 hX n (v4 + (1 : Int32)) σ17)
    exact J_some (fun h => j_icmp_t rfl (cc_ge_t h7) (j_weak (l := [some (.ref v0), some (.int v1), some (.int v2), some (.int v3), none, none, none, none, none, none, none, none]) (And.intro (Or.inr rfl) (And.intro (Or.inr rfl) (And.intro (Or.inr rfl) (And.intro (Or.inr rfl) (And.intro (Or.inl rfl) (And.intro (Or.inr rfl) (And.intro (Or.inr rfl) (And.intro (Or.inr rfl) (And.intro (Or.inr rfl) (And.intro (Or.inr rfl) (And.intro (Or.inr rfl) (And.intro (Or.inr rfl) True.intro)))))))))))) (hX _ _ h)))

set_option maxRecDepth 100000 in
theorem l_Mo_fitOf_L23 {fo : Option Nat} {d : Nat} (hd : 4 ≤ d + 1) {o : q_O} {σ' : q_H} {E : (Unit) → q_H → Prop} (v0 : Nat) (v1 : Int32) (v2 : Int32) (hX : ∀ (t : Unit) σ1, E (t) σ1 → q_G (q_rf fo) d m_Mo_fitOf o σ' 106 [some (.ref v0), some (.int v1), some (.int v2), none, none, none, none, none, none, none, none, none] [] σ1)  : ∀ (n : Nat) (v3 : Int32) (σ : q_H), q_J E (f_Mo_fitOf_L23 v0 v1 v2 n v3 σ) (q_G (q_rf fo) d m_Mo_fitOf o σ' 23 [some (.ref v0), some (.int v1), some (.int v2), some (.int v3), none, none, none, none, none, none, none, none] [] σ)
  | 0, v3, σ => J_none
  | n + 1, v3, σ => by
    unfold f_Mo_fitOf_L23
    refine q_J.step (fun g => j_iload_n rfl rfl (j_bipush (24 : Int32) rfl kb_24 (g))) ?_
    refine J_ite (fun h1 => ?_) (fun h1 => ?_)
    · refine J_sq (fun (t2 : Unit) (σ3 : q_H) => q_G (q_rf fo) d m_Mo_fitOf o σ' 100 [some (.ref v0), some (.int v1), some (.int v2), some (.int v3), none, none, none, none, none, none, none, none] [] σ3) (q_J.step (fun g => j_icmp_f rfl (cc_ge_f h1) (j_bipush (12 : Int32) rfl kb_12 (j_iload_n rfl rfl (j_imul rfl (j_istore [some (.ref v0), some (.int v1), some (.int v2), some (.int v3), some (.int ((12 : Int32) * v3)), none, none, none, none, none, none, none] rfl rfl (Or.inr rfl) rfl (g)))))) (l_Mo_fitOf_L35 hd v0 v1 v2 v3 (fun _ _ h => h) q_FU ((12 : Int32) * v3) σ)) (fun t2 σ3 => ?_)
      exact q_J.step (fun g => j_iinc [some (.ref v0), some (.int v1), some (.int v2), some (.int (v3 + (1 : Int32))), none, none, none, none, none, none, none, none] (v3 + (1 : Int32)) rfl rfl (by rw [k32_1]) (Or.inr rfl) rfl (j_goto rfl (g))) (l_Mo_fitOf_L23 hd v0 v1 v2 hX n (v3 + (1 : Int32)) σ3)
    exact J_some (fun h => j_icmp_t rfl (cc_ge_t h1) (j_weak (l := [some (.ref v0), some (.int v1), some (.int v2), none, none, none, none, none, none, none, none, none]) (And.intro (Or.inr rfl) (And.intro (Or.inr rfl) (And.intro (Or.inr rfl) (And.intro (Or.inl rfl) (And.intro (Or.inr rfl) (And.intro (Or.inr rfl) (And.intro (Or.inr rfl) (And.intro (Or.inr rfl) (And.intro (Or.inr rfl) (And.intro (Or.inr rfl) (And.intro (Or.inr rfl) (And.intro (Or.inr rfl) True.intro)))))))))))) (hX _ _ h)))

set_option maxRecDepth 100000 in
theorem l_Mo_fitOf_L114 {fo : Option Nat} {d : Nat} (hd : 4 ≤ d + 1) {o : q_O} {σ' : q_H} {E : (Int64 × Int64) → q_H → Prop} (v0 : Nat) (v1 : Int32) (v2 : Int32) (hX : ∀ (t : Int64 × Int64) σ1, E (t) σ1 → q_G (q_rf fo) d m_Mo_fitOf o σ' 151 [some (.ref v0), some (.int v1), some (.int v2), some (.long t.1), none, some (.long t.2), none, none, none, none, none, none] [] σ1)  : ∀ (n : Nat) (v3 : Int64) (v5 : Int64) (v7 : Int32) (σ : q_H), q_J E (f_Mo_fitOf_L114 v0 v1 v2 n v3 v5 v7 σ) (q_G (q_rf fo) d m_Mo_fitOf o σ' 114 [some (.ref v0), some (.int v1), some (.int v2), some (.long v3), none, some (.long v5), none, some (.int v7), none, none, none, none] [] σ)
  | 0, v3, v5, v7, σ => J_none
  | n + 1, v3, v5, v7, σ => by
    unfold f_Mo_fitOf_L114
    refine q_J.step (fun g => j_iload rfl rfl (j_bipush (17 : Int32) rfl kb_17 (g))) ?_
    refine J_ite (fun h1 => ?_) (fun h1 => ?_)
    · refine J_bind fun x2 hx2 => ?_
      refine J_bind fun x3 hx3 => ?_
      refine J_bind fun w4 hw4 => ?_
      refine J_cl fun x6 σ5 hσ5 => ?_
      exact q_J.step (fun g => j_icmp_f rfl (cc_ge_f h1) (j_lload_n rfl rfl (j_aload_n rfl rfl (j_gfr rfl hx2 (j_iload rfl rfl (j_ial rfl hx3 (j_i2l rfl (j_ladd rfl (j_lstore_n [some (.ref v0), some (.int v1), some (.int v2), some (.long (v3 + x3.toInt64)), none, some (.long v5), none, some (.int v7), none, none, none, none] rfl rfl (Or.inr rfl) rfl (j_lload rfl rfl (j_aload_n rfl rfl (j_iload_n rfl rfl (j_iload rfl rfl (j_v1 [.ref v0, .int v1, .int v7] [.long v5] rfl rfl rfl rfl rfl rfl hw4 (Or.inl rfl) (t_Mo_living (by omega) hσ5) (j_i2l rfl (j_ladd rfl (j_lstore [some (.ref v0), some (.int v1), some (.int v2), some (.long (v3 + x3.toInt64)), none, some (.long (v5 + x6.toInt64)), none, some (.int v7), none, none, none, none] rfl rfl (Or.inr True.intro) rfl (j_iinc [some (.ref v0), some (.int v1), some (.int v2), some (.long (v3 + x3.toInt64)), none, some (.long (v5 + x6.toInt64)), none, some (.int (v7 + (1 : Int32))), none, none, none, none] (v7 + (1 : Int32)) rfl rfl (by rw [k32_1]) (Or.inr True.intro) rfl (j_goto rfl (g)))))))))))))))))))) (l_Mo_fitOf_L114 hd v0 v1 v2 hX n (v3 + x3.toInt64) (v5 + x6.toInt64) (v7 + (1 : Int32)) σ5)
    exact J_some (fun h => j_icmp_t rfl (cc_ge_t h1) (j_weak (l := [some (.ref v0), some (.int v1), some (.int v2), some (.long v3), none, some (.long v5), none, none, none, none, none, none]) (And.intro (Or.inr rfl) (And.intro (Or.inr rfl) (And.intro (Or.inr rfl) (And.intro (Or.inr rfl) (And.intro (Or.inr rfl) (And.intro (Or.inr rfl) (And.intro (Or.inr rfl) (And.intro (Or.inl rfl) (And.intro (Or.inr rfl) (And.intro (Or.inr rfl) (And.intro (Or.inr rfl) (And.intro (Or.inr rfl) True.intro)))))))))))) (hX _ _ h)))

set_option maxRecDepth 100000 in
theorem l_Mo_fitOf_L157 {fo : Option Nat} {d : Nat} (hd : 4 ≤ d + 1) {o : q_O} {σ' : q_H} {E : (Int64) → q_H → Prop} (v0 : Nat) (v1 : Int32) (v3 : Int64) (v5 : Int64) (hX : ∀ (t : Int64) σ1, E (t) σ1 → q_G (q_rf fo) d m_Mo_fitOf o σ' 214 [none, none, none, none, none, none, none, some (.long t), none, none, none, none] [] σ1)  : ∀ (n : Nat) (v7 : Int64) (v9 : Int32) (σ : q_H), q_J E (f_Mo_fitOf_L157 v0 v1 v3 v5 n v7 v9 σ) (q_G (q_rf fo) d m_Mo_fitOf o σ' 157 [some (.ref v0), some (.int v1), none, some (.long v3), none, some (.long v5), none, some (.long v7), none, some (.int v9), none, none] [] σ)
  | 0, v7, v9, σ => J_none
  | n + 1, v7, v9, σ => by
    unfold f_Mo_fitOf_L157
    refine q_J.step (fun g => j_iload rfl rfl (j_bipush (17 : Int32) rfl kb_17 (g))) ?_
    refine J_ite (fun h1 => ?_) (fun h1 => ?_)
    · refine J_bind fun x2 hx2 => ?_
      refine J_bind fun x3 hx3 => ?_
      refine J_bind fun w4 hw4 => ?_
      refine J_cl fun x6 σ5 hσ5 => ?_
      refine q_J.step (fun g => j_icmp_f rfl (cc_ge_f h1) (j_aload_n rfl rfl (j_gfr rfl hx2 (j_iload rfl rfl (j_ial rfl hx3 (j_i2l rfl (j_lload rfl rfl (j_lmul rfl (j_aload_n rfl rfl (j_iload_n rfl rfl (j_iload rfl rfl (j_v1 [.ref v0, .int v1, .int v9] [.long (x3.toInt64 * v5)] rfl rfl rfl rfl rfl rfl hw4 (Or.inl rfl) (t_Mo_living (by omega) hσ5) (j_i2l rfl (j_lload_n rfl rfl (g))))))))))))))) ?_
      refine q_J.step (fun g => j_lmul rfl (j_lsub rfl (j_lstore [some (.ref v0), some (.int v1), none, some (.long v3), none, some (.long v5), none, some (.long v7), none, some (.int v9), some (.long ((x3.toInt64 * v5) - (x6.toInt64 * v3))), none] rfl rfl (Or.inr rfl) rfl (j_lload rfl rfl (j_lload rfl rfl (j_lconst (0 : Int64) rfl kl_0 (j_lcmp rfl (g)))))))) ?_
      refine J_ite (fun h7 => ?_) (fun h7 => ?_)
      · exact q_J.step (fun g => j_if_f rfl (lc_ge_f h7) (j_lload rfl rfl (j_lneg rfl (j_goto rfl (j_ladd rfl (j_lstore [some (.ref v0), some (.int v1), none, some (.long v3), none, some (.long v5), none, some (.long (v7 + (-((x3.toInt64 * v5) - (x6.toInt64 * v3))))), none, some (.int v9), some (.long ((x3.toInt64 * v5) - (x6.toInt64 * v3))), none] rfl rfl (Or.inr True.intro) rfl (j_iinc [some (.ref v0), some (.int v1), none, some (.long v3), none, some (.long v5), none, some (.long (v7 + (-((x3.toInt64 * v5) - (x6.toInt64 * v3))))), none, some (.int (v9 + (1 : Int32))), some (.long ((x3.toInt64 * v5) - (x6.toInt64 * v3))), none] (v9 + (1 : Int32)) rfl rfl (by rw [k32_1]) (Or.inr True.intro) rfl (j_goto rfl (j_weak (l := [some (.ref v0), some (.int v1), none, some (.long v3), none, some (.long v5), none, some (.long (v7 + (-((x3.toInt64 * v5) - (x6.toInt64 * v3))))), none, some (.int (v9 + (1 : Int32))), none, none]) (And.intro (Or.inr rfl) (And.intro (Or.inr rfl) (And.intro (Or.inr rfl) (And.intro (Or.inr rfl) (And.intro (Or.inr rfl) (And.intro (Or.inr rfl) (And.intro (Or.inr rfl) (And.intro (Or.inr rfl) (And.intro (Or.inr rfl) (And.intro (Or.inr rfl) (And.intro (Or.inl rfl) (And.intro (Or.inr rfl) True.intro)))))))))))) (g)))))))))) (l_Mo_fitOf_L157 hd v0 v1 v3 v5 hX n (v7 + (-((x3.toInt64 * v5) - (x6.toInt64 * v3)))) (v9 + (1 : Int32)) σ5)
      exact q_J.step (fun g => j_if_t rfl (lc_ge_t h7) (j_lload rfl rfl (j_ladd rfl (j_lstore [some (.ref v0), some (.int v1), none, some (.long v3), none, some (.long v5), none, some (.long (v7 + ((x3.toInt64 * v5) - (x6.toInt64 * v3)))), none, some (.int v9), some (.long ((x3.toInt64 * v5) - (x6.toInt64 * v3))), none] rfl rfl (Or.inr True.intro) rfl (j_iinc [some (.ref v0), some (.int v1), none, some (.long v3), none, some (.long v5), none, some (.long (v7 + ((x3.toInt64 * v5) - (x6.toInt64 * v3)))), none, some (.int (v9 + (1 : Int32))), some (.long ((x3.toInt64 * v5) - (x6.toInt64 * v3))), none] (v9 + (1 : Int32)) rfl rfl (by rw [k32_1]) (Or.inr True.intro) rfl (j_goto rfl (j_weak (l := [some (.ref v0), some (.int v1), none, some (.long v3), none, some (.long v5), none, some (.long (v7 + ((x3.toInt64 * v5) - (x6.toInt64 * v3)))), none, some (.int (v9 + (1 : Int32))), none, none]) (And.intro (Or.inr rfl) (And.intro (Or.inr rfl) (And.intro (Or.inr rfl) (And.intro (Or.inr rfl) (And.intro (Or.inr rfl) (And.intro (Or.inr rfl) (And.intro (Or.inr rfl) (And.intro (Or.inr rfl) (And.intro (Or.inr rfl) (And.intro (Or.inr rfl) (And.intro (Or.inl rfl) (And.intro (Or.inr rfl) True.intro)))))))))))) (g)))))))) (l_Mo_fitOf_L157 hd v0 v1 v3 v5 hX n (v7 + ((x3.toInt64 * v5) - (x6.toInt64 * v3))) (v9 + (1 : Int32)) σ5)
    exact J_some (fun h => j_icmp_t rfl (cc_ge_t h1) (j_weak (l := [none, none, none, none, none, none, none, some (.long v7), none, none, none, none]) (And.intro (Or.inl rfl) (And.intro (Or.inl rfl) (And.intro (Or.inr rfl) (And.intro (Or.inl rfl) (And.intro (Or.inr rfl) (And.intro (Or.inl rfl) (And.intro (Or.inr rfl) (And.intro (Or.inr rfl) (And.intro (Or.inr rfl) (And.intro (Or.inl rfl) (And.intro (Or.inr rfl) (And.intro (Or.inr rfl) True.intro)))))))))))) (hX _ _ h)))

set_option maxRecDepth 100000 in
theorem b_Mo_fitOf {fo : Option Nat} {d : Nat} (hd : 4 ≤ d + 1) {o : q_O} {σ' : q_H} (v0 : Nat) (v1 : Int32) (v2 : Int32) (σ : q_H) : q_J (fun (r : Int64) (σ1 : q_H) => o = .inl (some (.long r)) ∧ σ' = σ1) (f_Mo_fitOf v0 v1 v2 σ) (q_G (q_rf fo) d m_Mo_fitOf o σ' 0 [some (.ref v0), some (.int v1), some (.int v2), none, none, none, none, none, none, none, none, none] [] σ) := by
  unfold f_Mo_fitOf
  refine J_sq (fun (t1 : Unit) (σ2 : q_H) => q_G (q_rf fo) d m_Mo_fitOf o σ' 21 [some (.ref v0), some (.int v1), some (.int v2), none, none, none, none, none, none, none, none, none] [] σ2) (q_J.step (fun g => j_iconst (0 : Int32) rfl k32_0 (j_istore_n [some (.ref v0), some (.int v1), some (.int v2), some (.int (0 : Int32)), none, none, none, none, none, none, none, none] rfl rfl (Or.inr rfl) rfl (g))) (l_Mo_fitOf_L2 hd v0 v1 v2 (fun _ _ h => h) q_FU (0 : Int32) σ)) (fun t1 σ2 => ?_)
  refine J_sq (fun (t3 : Unit) (σ4 : q_H) => q_G (q_rf fo) d m_Mo_fitOf o σ' 106 [some (.ref v0), some (.int v1), some (.int v2), none, none, none, none, none, none, none, none, none] [] σ4) (q_J.step (fun g => j_iconst (0 : Int32) rfl k32_0 (j_istore_n [some (.ref v0), some (.int v1), some (.int v2), some (.int (0 : Int32)), none, none, none, none, none, none, none, none] rfl rfl (Or.inr rfl) rfl (g))) (l_Mo_fitOf_L23 hd v0 v1 v2 (fun _ _ h => h) q_FU (0 : Int32) σ2)) (fun t3 σ4 => ?_)
  refine J_sq (fun (t5 : Int64 × Int64) (σ6 : q_H) => q_G (q_rf fo) d m_Mo_fitOf o σ' 151 [some (.ref v0), some (.int v1), some (.int v2), some (.long t5.1), none, some (.long t5.2), none, none, none, none, none, none] [] σ6) (q_J.step (fun g => j_lconst (0 : Int64) rfl kl_0 (j_lstore_n [some (.ref v0), some (.int v1), some (.int v2), some (.long (0 : Int64)), none, none, none, none, none, none, none, none] rfl rfl (Or.inr rfl) rfl (j_lconst (0 : Int64) rfl kl_0 (j_lstore [some (.ref v0), some (.int v1), some (.int v2), some (.long (0 : Int64)), none, some (.long (0 : Int64)), none, none, none, none, none, none] rfl rfl (Or.inr True.intro) rfl (j_iload_n rfl rfl (j_istore [some (.ref v0), some (.int v1), some (.int v2), some (.long (0 : Int64)), none, some (.long (0 : Int64)), none, some (.int v2), none, none, none, none] rfl rfl (Or.inr True.intro) rfl (g))))))) (l_Mo_fitOf_L114 hd v0 v1 v2 (fun _ _ h => h) q_FU (0 : Int64) (0 : Int64) v2 σ4)) (fun t5 σ6 => ?_)
  refine J_sq (fun (t7 : Int64) (σ8 : q_H) => q_G (q_rf fo) d m_Mo_fitOf o σ' 214 [none, none, none, none, none, none, none, some (.long t7), none, none, none, none] [] σ8) (q_J.step (fun g => j_lconst (0 : Int64) rfl kl_0 (j_lstore [some (.ref v0), some (.int v1), some (.int v2), some (.long t5.1), none, some (.long t5.2), none, some (.long (0 : Int64)), none, none, none, none] rfl rfl (Or.inr True.intro) rfl (j_iload_n rfl rfl (j_istore [some (.ref v0), some (.int v1), some (.int v2), some (.long t5.1), none, some (.long t5.2), none, some (.long (0 : Int64)), none, some (.int v2), none, none] rfl rfl (Or.inr True.intro) rfl (j_weak (l := [some (.ref v0), some (.int v1), none, some (.long t5.1), none, some (.long t5.2), none, some (.long (0 : Int64)), none, some (.int v2), none, none]) (And.intro (Or.inr rfl) (And.intro (Or.inr rfl) (And.intro (Or.inl rfl) (And.intro (Or.inr rfl) (And.intro (Or.inr rfl) (And.intro (Or.inr rfl) (And.intro (Or.inr rfl) (And.intro (Or.inr rfl) (And.intro (Or.inr rfl) (And.intro (Or.inr rfl) (And.intro (Or.inr rfl) (And.intro (Or.inr rfl) True.intro)))))))))))) (g)))))) (l_Mo_fitOf_L157 hd v0 v1 t5.1 t5.2 (fun _ _ h => h) q_FU (0 : Int64) v2 σ6)) (fun t7 σ8 => ?_)
  exact J_some (fun h => j_lload rfl rfl (j_lret rfl rfl h))
theorem t_Mo_fitOf {fo : Option Nat} {d : Nat} (hd : 4 ≤ d) {v0 : Nat} {v1 : Int32} {v2 : Int32} {σ σ1 : q_H} {r : Int64} (h : f_Mo_fitOf v0 v1 v2 σ = some (r, σ1)) : q_Rel (q_rf fo) q_Ms d 238 [.ref v0, .int v1, .int v2] σ (.inl (some (.long r))) σ1 := by
  obtain ⟨d, rfl⟩ : ∃ d1, d = d1 + 1 := ⟨d - 1, by omega⟩
  exact q_Rel.of rfl rfl (b_Mo_fitOf hd _ _ _ σ _ _ h ⟨rfl, rfl⟩)

set_option maxRecDepth 100000 in
theorem l_Mo_readsLaw_L14 {fo : Option Nat} {d : Nat} (hd : 4 ≤ d + 1) {o : q_O} {σ' : q_H} {E : (Int32 ⊕ Unit) → q_H → Prop} (v0 : Nat) (hR : ∀ r σ1, E (.inl r) σ1 → o = .inl (some (.int r)) ∧ σ' = σ1) (hX : ∀ (t : Unit) σ1, E (.inr t) σ1 → q_G (q_rf fo) d m_Mo_readsLaw o σ' 136 [none] [] σ1)  : ∀ (n : Nat) (σ : q_H), q_J E (f_Mo_readsLaw_L14 v0 n σ) (q_G (q_rf fo) d m_Mo_readsLaw o σ' 14 [some (.ref v0)] [] σ)
  | 0, σ => J_none
  | n + 1, σ => by
    unfold f_Mo_readsLaw_L14
    refine J_bind fun x1 hx1 => ?_
    refine q_J.step (fun g => j_aload_n rfl rfl (j_gfi rfl hx1 (g))) ?_
    refine J_ite (fun h2 => ?_) (fun h2 => ?_)
    · exact J_some (fun h => j_if_t rfl (cc_eq_t h2) (j_weak (l := [none]) (And.intro (Or.inl rfl) True.intro) (hX _ _ h)))
    refine J_bind fun w3 hw3 => ?_
    refine J_cl fun x5 σ4 hσ4 => ?_
    refine q_J.step (fun g => j_if_f rfl (cc_eq_f h2) (j_aload_n rfl rfl (j_ldc2 (8903 : Int64) rfl kw_8903 (j_v1 [.ref v0, .long (8903 : Int64)] [] rfl rfl rfl rfl rfl rfl hw3 (Or.inl rfl) (t_Mo_isWord (by omega) hσ4) (g))))) ?_
    refine J_ite (fun h6 => ?_) (fun h6 => ?_)
    · refine J_bind fun w7 hw7 => ?_
      refine J_cl fun x9 σ8 hσ8 => ?_
      refine q_J.step (fun g => j_if_f rfl (cc_ne_f h6) (j_aload_n rfl rfl (j_iconst (1 : Int32) rfl k32_1 (j_v1 [.ref v0, .int (1 : Int32)] [] rfl rfl rfl rfl rfl rfl hw7 (Or.inl rfl) (t_Mo_errs (by omega) hσ8) (g))))) ?_
      refine J_ite (fun _ => J_none) (fun hz => ?_)
      replace hz := Decidable.not_not.mp hz
      exact J_some (fun h => j_iret rfl (q_zr hz) (hR _ _ h))
    refine J_bind fun x10 hx10 => ?_
    refine J_bind fun x11 hx11 => ?_
    refine q_J.step (fun g => j_if_t rfl (cc_ne_t h6) (j_aload_n rfl rfl (j_gfr rfl hx10 (j_iconst (4 : Int32) rfl k32_4 (j_ial rfl hx11 (j_bipush (6 : Int32) rfl kb_6 (g))))))) ?_
    refine J_ite (fun h12 => ?_) (fun h12 => ?_)
    · refine J_bind fun w13 hw13 => ?_
      refine J_cl fun x15 σ14 hσ14 => ?_
      refine q_J.step (fun g => j_icmp_f rfl (cc_ne_f h12) (j_aload_n rfl rfl (j_iconst (5 : Int32) rfl k32_5 (j_v1 [.ref v0, .int (5 : Int32)] [] rfl rfl rfl rfl rfl rfl hw13 (Or.inl rfl) (t_Mo_errs (by omega) hσ14) (g))))) ?_
      refine J_ite (fun _ => J_none) (fun hz => ?_)
      replace hz := Decidable.not_not.mp hz
      exact J_some (fun h => j_iret rfl (q_zr hz) (hR _ _ h))
    refine J_bind fun w16 hw16 => ?_
    refine J_cl fun _ σ17 hσ17 => ?_
    refine J_bind fun w19 hw19 => ?_
    refine J_cl fun x21 σ20 hσ20 => ?_
    refine q_J.step (fun g => j_icmp_t rfl (cc_ne_t h12) (j_aload_n rfl rfl (j_v0 [.ref v0] [] rfl rfl rfl rfl rfl rfl hw16 (Or.inl rfl) (t_Mo_nextToken (by omega) hσ17) (j_aload_n rfl rfl (j_ldc2 (458690 : Int64) rfl kw_458690 (j_v1 [.ref v0, .long (458690 : Int64)] [] rfl rfl rfl rfl rfl rfl hw19 (Or.inl rfl) (t_Mo_isWord (by omega) hσ20) (g))))))) ?_
    refine J_ite (fun h22 => ?_) (fun h22 => ?_)
    · refine J_bind fun w23 hw23 => ?_
      refine J_cl fun x25 σ24 hσ24 => ?_
      refine q_J.step (fun g => j_if_f rfl (cc_ne_f h22) (j_aload_n rfl rfl (j_iconst (1 : Int32) rfl k32_1 (j_v1 [.ref v0, .int (1 : Int32)] [] rfl rfl rfl rfl rfl rfl hw23 (Or.inl rfl) (t_Mo_errs (by omega) hσ24) (g))))) ?_
      refine J_ite (fun _ => J_none) (fun hz => ?_)
      replace hz := Decidable.not_not.mp hz
      exact J_some (fun h => j_iret rfl (q_zr hz) (hR _ _ h))
    refine J_bind fun w26 hw26 => ?_
    refine J_cl fun _ σ27 hσ27 => ?_
    refine J_bind fun x29 hx29 => ?_
    refine J_bind fun x30 hx30 => ?_
    refine J_bind fun x31 hx31 => ?_
    refine J_bind fun x32 hx32 => ?_
    refine J_bind fun σ33 hσ33 => ?_
    refine J_bind fun w34 hw34 => ?_
    refine J_cl fun x36 σ35 hσ35 => ?_
    refine q_J.step (fun g => j_if_t rfl (cc_ne_t h22) (j_aload_n rfl rfl (j_v0 [.ref v0] [] rfl rfl rfl rfl rfl rfl hw26 (Or.inl rfl) (t_Mo_nextToken (by omega) hσ27) (j_aload_n rfl rfl (j_gfr rfl hx29 (j_bipush (24 : Int32) rfl kb_24 (j_aload_n rfl rfl (j_gfr rfl hx30 (j_iconst (4 : Int32) rfl k32_4 (j_ial rfl hx31 (j_iadd rfl (j_aload_n rfl rfl (j_gfi rfl hx32 (j_ias rfl hσ33 (g))))))))))))))) ?_
    refine q_J.step (fun g => j_aload_n rfl rfl (j_v1 [.ref v0] [] rfl rfl rfl rfl rfl rfl hw34 (Or.inl rfl) (t_Mo_reads (by omega) hσ35) (g))) ?_
    refine J_ite (fun h37 => ?_) (fun h37 => ?_)
    · exact J_some (fun h => j_if_f rfl (cc_ne_f h37) (j_iconst (0 : Int32) rfl k32_0 (j_iret rfl (q_zr (Or.inl rfl)) (hR _ _ h))))
    refine J_bind fun x38 hx38 => ?_
    refine J_bind fun x39 hx39 => ?_
    refine J_bind fun x40 hx40 => ?_
    refine J_bind fun x41 hx41 => ?_
    refine J_bind fun σ42 hσ42 => ?_
    refine J_bind fun x43 hx43 => ?_
    refine J_bind fun x44 hx44 => ?_
    refine J_bind fun σ45 hσ45 => ?_
    exact q_J.step (fun g => j_if_t rfl (cc_ne_t h37) (j_aload_n rfl rfl (j_gfr rfl hx38 (j_bipush (24 : Int32) rfl kb_24 (j_aload_n rfl rfl (j_gfr rfl hx39 (j_iconst (4 : Int32) rfl k32_4 (j_ial rfl hx40 (j_iadd rfl (j_aload_n rfl rfl (j_gfi rfl hx41 (j_ias rfl hσ42 (j_aload_n rfl rfl (j_gfr rfl hx43 (j_iconst (4 : Int32) rfl k32_4 (j_dup2 rfl rfl rfl (j_ial rfl hx44 (j_iconst (1 : Int32) rfl k32_1 (j_iadd rfl (j_ias rfl hσ45 (j_goto rfl (g)))))))))))))))))))))) (l_Mo_readsLaw_L14 hd v0 hR hX n σ45)

set_option maxRecDepth 100000 in
theorem b_Mo_readsLaw {fo : Option Nat} {d : Nat} (hd : 4 ≤ d + 1) {o : q_O} {σ' : q_H} (v0 : Nat) (σ : q_H) : q_J (fun (r : Int32) (σ1 : q_H) => o = .inl (some (.int r)) ∧ σ' = σ1) (f_Mo_readsLaw v0 σ) (q_G (q_rf fo) d m_Mo_readsLaw o σ' 0 [some (.ref v0)] [] σ) := by
  unfold f_Mo_readsLaw
  refine J_bind fun x1 hx1 => ?_
  refine J_bind fun σ2 hσ2 => ?_
  refine J_bind fun σ3 hσ3 => ?_
  refine J_sq (fun (t0 : Int32 ⊕ Unit) (σ5 : q_H) => match t0 with | .inl r => o = .inl (some (.int r)) ∧ σ' = σ5 | .inr t4 => q_G (q_rf fo) d m_Mo_readsLaw o σ' 136 [none] [] σ5) (q_J.step (fun g => j_aload_n rfl rfl (j_gfr rfl hx1 (j_iconst (4 : Int32) rfl k32_4 (j_iconst (0 : Int32) rfl k32_0 (j_ias rfl hσ2 (j_aload_n rfl rfl (j_sipush (4000 : Int32) rfl ks_4000 (j_putf rfl rfl rfl rfl hσ3 (g))))))))) (l_Mo_readsLaw_L14 hd v0 (fun _ _ h => h) (fun _ _ h => h) q_FU σ3)) (fun t0 σ5 => ?_)
  cases t0 with
  | inl r6 => exact J_some (fun h => h)
  | inr t4 =>
    exact J_some (fun h => j_iconst (1 : Int32) rfl k32_1 (j_iret rfl (q_zr (Or.inr rfl)) h))
theorem t_Mo_readsLaw {fo : Option Nat} {d : Nat} (hd : 4 ≤ d) {v0 : Nat} {σ σ1 : q_H} {r : Int32} (h : f_Mo_readsLaw v0 σ = some (r, σ1)) : q_Rel (q_rf fo) q_Ms d 249 [.ref v0] σ (.inl (some (.int r))) σ1 := by
  obtain ⟨d, rfl⟩ : ∃ d1, d = d1 + 1 := ⟨d - 1, by omega⟩
  exact q_Rel.of rfl rfl (b_Mo_readsLaw hd _ σ _ _ h ⟨rfl, rfl⟩)

set_option maxRecDepth 100000 in
theorem l_Mo_isLet_L74 {fo : Option Nat} {d : Nat} (hd : 4 ≤ d + 1) {o : q_O} {σ' : q_H} {E : (Unit) → q_H → Prop} (v0 : Nat) (v1 : Int32) (v2 : Int32) (v3 : Int32) (v4 : Int32) (v5 : Int32) (v6 : Int32) (hX : ∀ (t : Unit) σ1, E (t) σ1 → q_G (q_rf fo) d m_Mo_isLet o σ' 107 [some (.ref v0), some (.int v1), some (.int v2), some (.int v3), some (.int v4), some (.int v5), none, none] [] σ1)  : ∀ (n : Nat) (v7 : Int32) (σ : q_H), q_J E (f_Mo_isLet_L74 v0 v1 v2 v3 v4 v5 v6 n v7 σ) (q_G (q_rf fo) d m_Mo_isLet o σ' 74 [some (.ref v0), some (.int v1), some (.int v2), some (.int v3), some (.int v4), some (.int v5), some (.int v6), some (.int v7)] [] σ)
  | 0, v7, σ => J_none
  | n + 1, v7, σ => by
    unfold f_Mo_isLet_L74
    refine q_J.step (fun g => j_iload rfl rfl (j_iconst (4 : Int32) rfl k32_4 (g))) ?_
    refine J_ite (fun h1 => ?_) (fun h1 => ?_)
    · refine J_bind fun x2 hx2 => ?_
      refine q_J.step (fun g => j_icmp_f rfl (cc_ge_f h1) (j_aload_n rfl rfl (j_gfr rfl hx2 (j_iconst (4 : Int32) rfl k32_4 (j_iload rfl rfl (j_iadd rfl (j_iload rfl rfl (j_iload rfl rfl (g))))))))) ?_
      refine J_ite (fun h3 => ?_) (fun h3 => ?_)
      · refine J_bind fun σ4 hσ4 => ?_
        exact q_J.step (fun g => j_icmp_f rfl (cc_ne_f h3) (j_iconst (1 : Int32) rfl k32_1 (j_goto rfl (j_ias rfl hσ4 (j_iinc [some (.ref v0), some (.int v1), some (.int v2), some (.int v3), some (.int v4), some (.int v5), some (.int v6), some (.int (v7 + (1 : Int32)))] (v7 + (1 : Int32)) rfl rfl (by rw [k32_1]) (Or.inr rfl) rfl (j_goto rfl (g))))))) (l_Mo_isLet_L74 hd v0 v1 v2 v3 v4 v5 v6 hX n (v7 + (1 : Int32)) σ4)
      refine J_bind fun σ5 hσ5 => ?_
      exact q_J.step (fun g => j_icmp_t rfl (cc_ne_t h3) (j_iconst (0 : Int32) rfl k32_0 (j_ias rfl hσ5 (j_iinc [some (.ref v0), some (.int v1), some (.int v2), some (.int v3), some (.int v4), some (.int v5), some (.int v6), some (.int (v7 + (1 : Int32)))] (v7 + (1 : Int32)) rfl rfl (by rw [k32_1]) (Or.inr rfl) rfl (j_goto rfl (g)))))) (l_Mo_isLet_L74 hd v0 v1 v2 v3 v4 v5 v6 hX n (v7 + (1 : Int32)) σ5)
    exact J_some (fun h => j_icmp_t rfl (cc_ge_t h1) (j_weak (l := [some (.ref v0), some (.int v1), some (.int v2), some (.int v3), some (.int v4), some (.int v5), none, none]) (And.intro (Or.inr rfl) (And.intro (Or.inr rfl) (And.intro (Or.inr rfl) (And.intro (Or.inr rfl) (And.intro (Or.inr rfl) (And.intro (Or.inr rfl) (And.intro (Or.inl rfl) (And.intro (Or.inl rfl) True.intro)))))))) (hX _ _ h)))

set_option maxRecDepth 100000 in
theorem l_Mo_isLet_L204 {fo : Option Nat} {d : Nat} (hd : 4 ≤ d + 1) {o : q_O} {σ' : q_H} {E : (Int32 ⊕ Unit) → q_H → Prop} (v0 : Nat) (v1 : Int32) (hR : ∀ r σ1, E (.inl r) σ1 → o = .inl (some (.int r)) ∧ σ' = σ1) (hX : ∀ (t : Unit) σ1, E (.inr t) σ1 → q_G (q_rf fo) d m_Mo_isLet o σ' 237 [none, none, none, none, none, none, none, none] [] σ1)  : ∀ (n : Nat) (v7 : Int32) (σ : q_H), q_J E (f_Mo_isLet_L204 v0 v1 n v7 σ) (q_G (q_rf fo) d m_Mo_isLet o σ' 204 [some (.ref v0), some (.int v1), none, none, none, none, none, some (.int v7)] [] σ)
  | 0, v7, σ => J_none
  | n + 1, v7, σ => by
    unfold f_Mo_isLet_L204
    refine J_bind fun x1 hx1 => ?_
    refine J_bind fun x2 hx2 => ?_
    refine q_J.step (fun g => j_iload rfl rfl (j_bipush (6 : Int32) rfl kb_6 (j_iload_n rfl rfl (j_imul rfl (j_aload_n rfl rfl (j_gfr rfl hx1 (j_iload_n rfl rfl (j_ial rfl hx2 (j_iadd rfl (g)))))))))) ?_
    refine J_ite (fun h3 => ?_) (fun h3 => ?_)
    · refine J_bind fun w4 hw4 => ?_
      refine J_cl fun x6 σ5 hσ5 => ?_
      refine q_J.step (fun g => j_icmp_f rfl (cc_ge_f h3) (j_aload_n rfl rfl (j_iload rfl rfl (j_v1 [.ref v0, .int v7] [] rfl rfl rfl rfl rfl rfl hw4 (Or.inl rfl) (t_Mo_worth (by omega) hσ5) (g))))) ?_
      refine J_ite (fun h7 => ?_) (fun h7 => ?_)
      · exact q_J.step (fun g => j_if_t rfl (cc_eq_t h7) (j_iinc [some (.ref v0), some (.int v1), none, none, none, none, none, some (.int (v7 + (1 : Int32)))] (v7 + (1 : Int32)) rfl rfl (by rw [k32_1]) (Or.inr True.intro) rfl (j_goto rfl (g)))) (l_Mo_isLet_L204 hd v0 v1 hR hX n (v7 + (1 : Int32)) σ5)
      exact J_some (fun h => j_if_f rfl (cc_eq_f h7) (j_iconst (1 : Int32) rfl k32_1 (j_iret rfl (q_zr (Or.inr rfl)) (hR _ _ h))))
    exact J_some (fun h => j_icmp_t rfl (cc_ge_t h3) (j_weak (l := [none, none, none, none, none, none, none, none]) (And.intro (Or.inl rfl) (And.intro (Or.inl rfl) (And.intro (Or.inr rfl) (And.intro (Or.inr rfl) (And.intro (Or.inr rfl) (And.intro (Or.inr rfl) (And.intro (Or.inr rfl) (And.intro (Or.inl rfl) True.intro)))))))) (hX _ _ h)))

set_option maxRecDepth 100000 in
theorem b_Mo_isLet {fo : Option Nat} {d : Nat} (hd : 4 ≤ d + 1) {o : q_O} {σ' : q_H} (v0 : Nat) (v1 : Int32) (v2 : Int32) (v3 : Int32) (σ : q_H) : q_J (fun (r : Int32) (σ1 : q_H) => o = .inl (some (.int r)) ∧ σ' = σ1) (f_Mo_isLet v0 v1 v2 v3 σ) (q_G (q_rf fo) d m_Mo_isLet o σ' 0 [some (.ref v0), some (.int v1), some (.int v2), some (.int v3), none, none, none, none] [] σ) := by
  unfold f_Mo_isLet
  refine J_bind fun w1 hw1 => ?_
  refine J_cl fun x3 σ2 hσ2 => ?_
  refine J_bind fun w4 hw4 => ?_
  refine J_cl fun x6 σ5 hσ5 => ?_
  refine J_bind fun x7 hx7 => ?_
  refine J_bind fun x8 hx8 => ?_
  refine J_bind fun x9 hx9 => ?_
  refine J_bind fun x10 hx10 => ?_
  refine J_bind fun x11 hx11 => ?_
  refine J_bind fun σ12 hσ12 => ?_
  refine J_bind fun x13 hx13 => ?_
  refine J_bind fun x14 hx14 => ?_
  refine J_bind fun x15 hx15 => ?_
  refine J_bind fun σ16 hσ16 => ?_
  refine J_bind fun x17 hx17 => ?_
  refine J_bind fun x18 hx18 => ?_
  refine J_bind fun x19 hx19 => ?_
  refine J_bind fun σ20 hσ20 => ?_
  refine J_sq (fun (t21 : Unit) (σ22 : q_H) => q_G (q_rf fo) d m_Mo_isLet o σ' 107 [some (.ref v0), some (.int v1), some (.int v2), some (.int v3), some (.int (((12 : Int32) * v2) + v3)), some (.int x3), none, none] [] σ22) (q_J.step (fun g => j_bipush (12 : Int32) rfl kb_12 (j_iload_n rfl rfl (j_imul rfl (j_iload_n rfl rfl (j_iadd rfl (j_istore [some (.ref v0), some (.int v1), some (.int v2), some (.int v3), some (.int (((12 : Int32) * v2) + v3)), none, none, none] rfl rfl (Or.inr rfl) rfl (j_aload_n rfl rfl (j_iload_n rfl rfl (j_iload_n rfl rfl (j_v1 [.ref v0, .int v2, .int v3] [] rfl rfl rfl rfl rfl rfl hw1 (Or.inl rfl) (t_Mo_husband (by omega) hσ2) (j_istore [some (.ref v0), some (.int v1), some (.int v2), some (.int v3), some (.int (((12 : Int32) * v2) + v3)), some (.int x3), none, none] rfl rfl (Or.inr rfl) rfl (j_aload_n rfl rfl (j_iload_n rfl rfl (j_iload_n rfl rfl (j_v1 [.ref v0, .int v2, .int v3] [] rfl rfl rfl rfl rfl rfl hw4 (Or.inl rfl) (t_Mo_sortOf (by omega) hσ5) (j_istore [some (.ref v0), some (.int v1), some (.int v2), some (.int v3), some (.int (((12 : Int32) * v2) + v3)), some (.int x3), some (.int x6), none] rfl rfl (Or.inr rfl) rfl (j_aload_n rfl rfl (j_gfr rfl hx7 (j_iconst (1 : Int32) rfl k32_1 (j_aload_n rfl rfl (j_gfr rfl hx8 (j_iload rfl rfl (j_ial rfl hx9 (j_aload_n rfl rfl (j_gfr rfl hx10 (j_iload rfl rfl (j_ial rfl hx11 (j_isub rfl (j_ias rfl hσ12 (j_aload_n rfl rfl (j_gfr rfl hx13 (j_iconst (2 : Int32) rfl k32_2 (j_aload_n rfl rfl (j_gfr rfl hx14 (j_iload rfl rfl (j_ial rfl hx15 (j_ias rfl hσ16 (j_aload_n rfl rfl (j_gfr rfl hx17 (j_iconst (3 : Int32) rfl k32_3 (j_aload_n rfl rfl (j_gfr rfl hx18 (j_iload rfl rfl (j_ial rfl hx19 (j_ias rfl hσ20 (j_iconst (0 : Int32) rfl k32_0 (j_istore [some (.ref v0), some (.int v1), some (.int v2), some (.int v3), some (.int (((12 : Int32) * v2) + v3)), some (.int x3), some (.int x6), some (.int (0 : Int32))] rfl rfl (Or.inr rfl) rfl (g)))))))))))))))))))))))))))))))))))))))))))))))) (l_Mo_isLet_L74 hd v0 v1 v2 v3 (((12 : Int32) * v2) + v3) x3 x6 (fun _ _ h => h) q_FU (0 : Int32) σ20)) (fun t21 σ22 => ?_)
  refine J_bind fun x23 hx23 => ?_
  refine J_bind fun w24 hw24 => ?_
  refine J_cl fun x26 σ25 hσ25 => ?_
  refine J_bind fun σ27 hσ27 => ?_
  refine J_bind fun x28 hx28 => ?_
  refine J_bind fun w29 hw29 => ?_
  refine J_cl fun x31 σ30 hσ30 => ?_
  refine J_bind fun σ32 hσ32 => ?_
  refine J_bind fun x33 hx33 => ?_
  refine J_bind fun w34 hw34 => ?_
  refine J_cl fun x36 σ35 hσ35 => ?_
  refine J_bind fun σ37 hσ37 => ?_
  refine J_bind fun x38 hx38 => ?_
  refine J_bind fun x39 hx39 => ?_
  refine J_bind fun x40 hx40 => ?_
  refine J_bind fun σ41 hσ41 => ?_
  refine J_bind fun x42 hx42 => ?_
  refine J_bind fun x43 hx43 => ?_
  refine J_bind fun x44 hx44 => ?_
  refine J_bind fun x45 hx45 => ?_
  refine J_bind fun x46 hx46 => ?_
  refine J_bind fun σ47 hσ47 => ?_
  refine J_bind fun x48 hx48 => ?_
  refine J_bind fun x49 hx49 => ?_
  refine J_bind fun x50 hx50 => ?_
  refine J_bind fun σ51 hσ51 => ?_
  refine J_sq (fun (t0 : Int32 ⊕ Unit) (σ53 : q_H) => match t0 with | .inl r => o = .inl (some (.int r)) ∧ σ' = σ53 | .inr t52 => q_G (q_rf fo) d m_Mo_isLet o σ' 237 [none, none, none, none, none, none, none, none] [] σ53) (q_J.step (fun g => j_aload_n rfl rfl (j_gfr rfl hx23 (j_bipush (8 : Int32) rfl kb_8 (j_aload_n rfl rfl (j_iload_n rfl rfl (j_iload_n rfl rfl (j_v1 [.ref v0, .int v2, .int v3] [.int (8 : Int32), .ref x23] rfl rfl rfl rfl rfl rfl hw24 (Or.inl rfl) (t_Mo_takenOf (by omega) hσ25) (j_ias rfl hσ27 (j_aload_n rfl rfl (j_gfr rfl hx28 (j_bipush (9 : Int32) rfl kb_9 (j_aload_n rfl rfl (j_iload_n rfl rfl (j_iload rfl rfl (j_iconst (0 : Int32) rfl k32_0 (j_iload rfl rfl (j_v1 [.ref v0, .int v2, .int (((12 : Int32) * v2) + v3), .int (0 : Int32), .int x3] [.int (9 : Int32), .ref x28] rfl rfl rfl rfl rfl rfl hw29 (Or.inl rfl) (t_Mo_others (by omega) hσ30) (j_ias rfl hσ32 (j_aload_n rfl rfl (j_gfr rfl hx33 (j_bipush (10 : Int32) rfl kb_10 (j_aload_n rfl rfl (j_iload_n rfl rfl (j_iload rfl rfl (j_iconst (1 : Int32) rfl k32_1 (j_iload rfl rfl (j_v1 [.ref v0, .int v2, .int x3, .int (1 : Int32), .int (((12 : Int32) * v2) + v3)] [.int (10 : Int32), .ref x33] rfl rfl rfl rfl rfl rfl hw34 (Or.inl rfl) (t_Mo_others (by omega) hσ35) (j_ias rfl hσ37 (j_aload_n rfl rfl (j_gfr rfl hx38 (j_bipush (11 : Int32) rfl kb_11 (j_aload_n rfl rfl (j_gfr rfl hx39 (j_iload_n rfl rfl (j_ial rfl hx40 (j_ias rfl hσ41 (j_aload_n rfl rfl (j_gfr rfl hx42 (j_bipush (12 : Int32) rfl kb_12 (j_aload_n rfl rfl (j_gfr rfl hx43 (j_aload_n rfl rfl (j_gfr rfl hx44 (j_iload_n rfl rfl (j_ial rfl hx45 (j_ial rfl hx46 (j_ias rfl hσ47 (j_aload_n rfl rfl (j_gfr rfl hx48 (j_bipush (13 : Int32) rfl kb_13 (j_aload_n rfl rfl (j_gfr rfl hx49 (j_iload_n rfl rfl (j_ial rfl hx50 (j_ias rfl hσ51 (j_bipush (6 : Int32) rfl kb_6 (j_iload_n rfl rfl (j_imul rfl (j_istore [some (.ref v0), some (.int v1), some (.int v2), some (.int v3), some (.int (((12 : Int32) * v2) + v3)), some (.int x3), none, some (.int ((6 : Int32) * v1))] rfl rfl (Or.inr True.intro) rfl (j_weak (l := [some (.ref v0), some (.int v1), none, none, none, none, none, some (.int ((6 : Int32) * v1))]) (And.intro (Or.inr rfl) (And.intro (Or.inr rfl) (And.intro (Or.inl rfl) (And.intro (Or.inl rfl) (And.intro (Or.inl rfl) (And.intro (Or.inl rfl) (And.intro (Or.inr rfl) (And.intro (Or.inr rfl) True.intro)))))))) (g))))))))))))))))))))))))))))))))))))))))))))))))))))))))))))) (l_Mo_isLet_L204 hd v0 v1 (fun _ _ h => h) (fun _ _ h => h) q_FU ((6 : Int32) * v1) σ51)) (fun t0 σ53 => ?_)
  cases t0 with
  | inl r54 => exact J_some (fun h => h)
  | inr t52 =>
    exact J_some (fun h => j_iconst (0 : Int32) rfl k32_0 (j_iret rfl (q_zr (Or.inl rfl)) h))
theorem t_Mo_isLet {fo : Option Nat} {d : Nat} (hd : 4 ≤ d) {v0 : Nat} {v1 : Int32} {v2 : Int32} {v3 : Int32} {σ σ1 : q_H} {r : Int32} (h : f_Mo_isLet v0 v1 v2 v3 σ = some (r, σ1)) : q_Rel (q_rf fo) q_Ms d 254 [.ref v0, .int v1, .int v2, .int v3] σ (.inl (some (.int r))) σ1 := by
  obtain ⟨d, rfl⟩ : ∃ d1, d = d1 + 1 := ⟨d - 1, by omega⟩
  exact q_Rel.of rfl rfl (b_Mo_isLet hd _ _ _ _ σ _ _ h ⟨rfl, rfl⟩)

set_option maxRecDepth 100000 in
theorem b_Mo_world {fo : Option Nat} {d : Nat} (hd : 4 ≤ d + 1) {o : q_O} {σ' : q_H} (v0 : Nat) (v1 : Int32) (v2 : Int32) (v3 : Int32) (v4 : Int32) (v5 : Int32) (v6 : Int32) (σ : q_H) : q_J (fun (r : Int32) (σ1 : q_H) => o = .inl (some (.int r)) ∧ σ' = σ1) (f_Mo_world v0 v1 v2 v3 v4 v5 v6 σ) (q_G (q_rf fo) d m_Mo_world o σ' 0 [some (.ref v0), some (.int v1), some (.int v2), some (.int v3), some (.int v4), some (.int v5), some (.int v6)] [] σ) := by
  unfold f_Mo_world
  refine J_bind fun σ1 hσ1 => ?_
  refine J_cl fun x3 σ2 hσ2 => ?_
  refine q_J.step (fun g => j_aload_n rfl rfl (j_iconst (0 : Int32) rfl k32_0 (j_putf rfl rfl rfl rfl hσ1 (j_iload_n rfl rfl (j_iconst (0 : Int32) rfl k32_0 (j_sipush (9999 : Int32) rfl ks_9999 (j_s1 [.int v1, .int (0 : Int32), .int (9999 : Int32)] [] rfl rfl rfl rfl rfl (t_Mo_within (by omega) hσ2) (g)))))))) ?_
  refine J_ite (fun h4 => ?_) (fun h4 => ?_)
  · exact J_some (fun h => j_if_t rfl (cc_eq_t h4) (j_iconst (-1 : Int32) rfl k32_m1 (j_iret rfl rfl h)))
  refine J_cl fun x6 σ5 hσ5 => ?_
  refine q_J.step (fun g => j_if_f rfl (cc_eq_f h4) (j_iload_n rfl rfl (j_iload_n rfl rfl (j_iload rfl rfl (j_iload rfl rfl (j_s1 [.int v2, .int v3, .int v4, .int v5] [] rfl rfl rfl rfl rfl (t_Mo_isWorld (by omega) hσ5) (g))))))) ?_
  refine J_ite (fun h7 => ?_) (fun h7 => ?_)
  · exact J_some (fun h => j_if_t rfl (cc_eq_t h7) (j_iconst (-1 : Int32) rfl k32_m1 (j_iret rfl rfl h)))
  refine J_cl fun x9 σ8 hσ8 => ?_
  refine q_J.step (fun g => j_if_f rfl (cc_eq_f h7) (j_iload rfl rfl (j_iconst (0 : Int32) rfl k32_0 (j_iconst (1 : Int32) rfl k32_1 (j_s1 [.int v6, .int (0 : Int32), .int (1 : Int32)] [] rfl rfl rfl rfl rfl (t_Mo_within (by omega) hσ8) (g)))))) ?_
  refine J_ite (fun h10 => ?_) (fun h10 => ?_)
  · exact J_some (fun h => j_if_f rfl (cc_ne_f h10) (j_iconst (-1 : Int32) rfl k32_m1 (j_iret rfl rfl h)))
  refine J_bind fun w11 hw11 => ?_
  refine J_cl fun _ σ12 hσ12 => ?_
  refine q_J.step (fun g => j_if_t rfl (cc_ne_t h10) (j_aload_n rfl rfl (j_iload_n rfl rfl (j_iload_n rfl rfl (j_iload_n rfl rfl (j_iload rfl rfl (j_iload rfl rfl (j_v0 [.ref v0, .int v1, .int v2, .int v3, .int v4, .int v5] [] rfl rfl rfl rfl rfl rfl hw11 (Or.inl rfl) (t_Mo_runs (by omega) hσ12) (j_iload rfl rfl (g)))))))))) ?_
  refine J_ite (fun h14 => ?_) (fun h14 => ?_)
  · refine J_bind fun x15 hx15 => ?_
    exact J_some (fun h => j_if_f rfl (cc_ne_f h14) (j_aload_n rfl rfl (j_gfi rfl hx15 (j_goto rfl (j_iret rfl rfl h)))))
  refine J_bind fun x16 hx16 => ?_
  exact J_some (fun h => j_if_t rfl (cc_ne_t h14) (j_aload_n rfl rfl (j_gfi rfl hx16 (j_iret rfl rfl h))))
theorem t_Mo_world {fo : Option Nat} {d : Nat} (hd : 4 ≤ d) {v0 : Nat} {v1 : Int32} {v2 : Int32} {v3 : Int32} {v4 : Int32} {v5 : Int32} {v6 : Int32} {σ σ1 : q_H} {r : Int32} (h : f_Mo_world v0 v1 v2 v3 v4 v5 v6 σ = some (r, σ1)) : q_Rel (q_rf fo) q_Ms d 263 [.ref v0, .int v1, .int v2, .int v3, .int v4, .int v5, .int v6] σ (.inl (some (.int r))) σ1 := by
  obtain ⟨d, rfl⟩ : ∃ d1, d = d1 + 1 := ⟨d - 1, by omega⟩
  exact q_Rel.of rfl rfl (b_Mo_world hd _ _ _ _ _ _ _ σ _ _ h ⟨rfl, rfl⟩)

set_option maxRecDepth 100000 in
theorem b_Mo_line {fo : Option Nat} {d : Nat} (hd : 5 ≤ d + 1) {o : q_O} {σ' : q_H} (v0 : Nat) (v1 : Int32) (v2 : Int32) (v3 : Int32) (σ : q_H) : q_J (fun (r : Int32) (σ1 : q_H) => o = .inl (some (.int r)) ∧ σ' = σ1) (f_Mo_line v0 v1 v2 v3 σ) (q_G (q_rf fo) d m_Mo_line o σ' 0 [some (.ref v0), some (.int v1), some (.int v2), some (.int v3), none] [] σ) := by
  unfold f_Mo_line
  refine J_bind fun w1 hw1 => ?_
  refine J_cl fun x3 σ2 hσ2 => ?_
  refine q_J.step (fun g => j_aload_n rfl rfl (j_aload_n rfl rfl (j_iload_n rfl rfl (j_iload_n rfl rfl (j_v1 [.ref v0, .int v1, .int v2] [.ref v0] rfl rfl rfl rfl rfl rfl hw1 (Or.inl rfl) (t_Mo_isLine (by omega) hσ2) (g)))))) ?_
  refine J_ite (fun h4 => ?_) (fun h4 => ?_)
  · refine J_bind fun σ5 hσ5 => ?_
    refine J_bind fun x6 hx6 => ?_
    refine q_J.step (fun g => j_if_t rfl (cc_eq_t h4) (j_iconst (1 : Int32) rfl k32_1 (j_putf rfl rfl rfl rfl hσ5 (j_aload_n rfl rfl (j_gfi rfl hx6 (j_iconst (1 : Int32) rfl k32_1 (g))))))) ?_
    refine J_ite (fun h7 => ?_) (fun h7 => ?_)
    · exact J_some (fun h => j_icmp_f rfl (cc_ne_f h7) (j_iconst (0 : Int32) rfl k32_0 (j_iret rfl rfl h)))
    refine q_J.step (fun g => j_icmp_t rfl (cc_ne_t h7) (j_bipush (12 : Int32) rfl kb_12 (j_iload_n rfl rfl (j_imul rfl (j_iload_n rfl rfl (j_iadd rfl (j_istore [some (.ref v0), some (.int v1), some (.int v2), some (.int v3), some (.int (((12 : Int32) * v1) + v2))] rfl rfl (Or.inr rfl) rfl (j_iload_n rfl rfl (g))))))))) ?_
    refine J_ite (fun h8 => ?_) (fun h8 => ?_)
    · refine J_bind fun x9 hx9 => ?_
      refine J_bind fun x10 hx10 => ?_
      exact J_some (fun h => j_if_f rfl (cc_ne_f h8) (j_aload_n rfl rfl (j_gfr rfl hx9 (j_iload rfl rfl (j_ial rfl hx10 (j_goto rfl (j_iret rfl rfl h)))))))
    refine q_J.step (fun g => j_if_t rfl (cc_ne_t h8) (j_iload_n rfl rfl (j_iconst (1 : Int32) rfl k32_1 (g)))) ?_
    refine J_ite (fun h11 => ?_) (fun h11 => ?_)
    · refine J_bind fun x12 hx12 => ?_
      refine J_bind fun x13 hx13 => ?_
      exact J_some (fun h => j_icmp_f rfl (cc_ne_f h11) (j_aload_n rfl rfl (j_gfr rfl hx12 (j_iload rfl rfl (j_ial rfl hx13 (j_goto rfl (j_iret rfl rfl h)))))))
    refine q_J.step (fun g => j_icmp_t rfl (cc_ne_t h11) (j_iload_n rfl rfl (j_iconst (2 : Int32) rfl k32_2 (g)))) ?_
    refine J_ite (fun h14 => ?_) (fun h14 => ?_)
    · refine J_bind fun x15 hx15 => ?_
      refine J_bind fun x16 hx16 => ?_
      refine J_cl fun x18 σ17 hσ17 => ?_
      exact J_some (fun h => j_icmp_f rfl (cc_ne_f h14) (j_aload_n rfl rfl (j_gfr rfl hx15 (j_iload rfl rfl (j_ial rfl hx16 (j_s1 [.int x16] [] rfl rfl rfl rfl rfl (t_Mo_wide (by omega) hσ17) (j_goto rfl (j_iret rfl rfl h))))))))
    refine q_J.step (fun g => j_icmp_t rfl (cc_ne_t h14) (j_iload_n rfl rfl (j_iconst (3 : Int32) rfl k32_3 (g)))) ?_
    refine J_ite (fun h19 => ?_) (fun h19 => ?_)
    · refine J_bind fun x20 hx20 => ?_
      refine J_bind fun x21 hx21 => ?_
      exact J_some (fun h => j_icmp_f rfl (cc_ne_f h19) (j_aload_n rfl rfl (j_gfr rfl hx20 (j_iload rfl rfl (j_ial rfl hx21 (j_goto rfl (j_iret rfl rfl h)))))))
    refine q_J.step (fun g => j_icmp_t rfl (cc_ne_t h19) (j_iload_n rfl rfl (j_iconst (4 : Int32) rfl k32_4 (g)))) ?_
    refine J_ite (fun h22 => ?_) (fun h22 => ?_)
    · refine J_bind fun x23 hx23 => ?_
      refine J_bind fun x24 hx24 => ?_
      exact J_some (fun h => j_icmp_f rfl (cc_ne_f h22) (j_aload_n rfl rfl (j_gfr rfl hx23 (j_iload rfl rfl (j_ial rfl hx24 (j_goto rfl (j_iret rfl rfl h)))))))
    refine J_bind fun x25 hx25 => ?_
    refine J_bind fun x26 hx26 => ?_
    refine J_bind fun x27 hx27 => ?_
    refine J_bind fun x28 hx28 => ?_
    refine q_J.step (fun g => j_icmp_t rfl (cc_ne_t h22) (j_aload_n rfl rfl (j_gfr rfl hx25 (j_iload rfl rfl (j_ial rfl hx26 (j_aload_n rfl rfl (j_gfr rfl hx27 (j_iload rfl rfl (j_lal rfl hx28 (j_lconst (0 : Int64) rfl kl_0 (j_lcmp rfl (g)))))))))))) ?_
    refine J_sq (fun (t30 : Int32) (σ31 : q_H) => q_G (q_rf fo) d m_Mo_line o σ' 147 [some (.ref v0), none, none, none, some (.int (((12 : Int32) * v1) + v2))] [.int t30, .int x26] σ31) ?_ (fun t30 σ31 => ?_)
    · refine J_ite (fun h29 => ?_) (fun h29 => ?_)
      · exact J_some (fun h => j_if_f rfl (lc_le_f h29) (j_bipush (16 : Int32) rfl kb_16 (j_goto rfl (j_weak (l := [some (.ref v0), none, none, none, some (.int (((12 : Int32) * v1) + v2))]) (And.intro (Or.inr rfl) (And.intro (Or.inl rfl) (And.intro (Or.inl rfl) (And.intro (Or.inl rfl) (And.intro (Or.inr rfl) True.intro))))) (h)))))
      exact J_some (fun h => j_if_t rfl (lc_le_t h29) (j_iconst (0 : Int32) rfl k32_0 (j_weak (l := [some (.ref v0), none, none, none, some (.int (((12 : Int32) * v1) + v2))]) (And.intro (Or.inr rfl) (And.intro (Or.inl rfl) (And.intro (Or.inl rfl) (And.intro (Or.inl rfl) (And.intro (Or.inr rfl) True.intro))))) (h))))
    refine J_bind fun x32 hx32 => ?_
    refine J_bind fun x33 hx33 => ?_
    refine q_J.step (fun g => j_iadd rfl (j_aload_n rfl rfl (j_gfr rfl hx32 (j_iload rfl rfl (j_lal rfl hx33 (j_lconst (0 : Int64) rfl kl_0 (j_lcmp rfl (g)))))))) ?_
    refine J_ite (fun h34 => ?_) (fun h34 => ?_)
    · exact J_some (fun h => j_if_f rfl (lc_le_f h34) (j_bipush (32 : Int32) rfl kb_32 (j_goto rfl (j_iadd rfl (j_iret rfl rfl h)))))
    exact J_some (fun h => j_if_t rfl (lc_le_t h34) (j_iconst (0 : Int32) rfl k32_0 (j_iadd rfl (j_iret rfl rfl h))))
  refine J_cl fun x36 σ35 hσ35 => ?_
  refine q_J.step (fun g => j_if_f rfl (cc_eq_f h4) (j_iload_n rfl rfl (j_iconst (0 : Int32) rfl k32_0 (j_iconst (5 : Int32) rfl k32_5 (j_s1 [.int v3, .int (0 : Int32), .int (5 : Int32)] [.ref v0] rfl rfl rfl rfl rfl (t_Mo_within (by omega) hσ35) (g)))))) ?_
  refine J_sq (fun (t38 : Int32) (σ39 : q_H) => q_G (q_rf fo) d m_Mo_line o σ' 24 [some (.ref v0), some (.int v1), some (.int v2), some (.int v3), none] [.int t38, .ref v0] σ39) ?_ (fun t38 σ39 => ?_)
  · refine J_ite (fun h37 => ?_) (fun h37 => ?_)
    · exact J_some (fun h => j_if_t rfl (cc_eq_t h37) (j_iconst (1 : Int32) rfl k32_1 (h)))
    exact J_some (fun h => j_if_f rfl (cc_eq_f h37) (j_iconst (0 : Int32) rfl k32_0 (j_goto rfl (h))))
  refine J_bind fun σ40 hσ40 => ?_
  refine J_bind fun x41 hx41 => ?_
  refine q_J.step (fun g => j_putf rfl rfl rfl rfl hσ40 (j_aload_n rfl rfl (j_gfi rfl hx41 (j_iconst (1 : Int32) rfl k32_1 (g))))) ?_
  refine J_ite (fun h42 => ?_) (fun h42 => ?_)
  · exact J_some (fun h => j_icmp_f rfl (cc_ne_f h42) (j_iconst (0 : Int32) rfl k32_0 (j_iret rfl rfl h)))
  refine q_J.step (fun g => j_icmp_t rfl (cc_ne_t h42) (j_bipush (12 : Int32) rfl kb_12 (j_iload_n rfl rfl (j_imul rfl (j_iload_n rfl rfl (j_iadd rfl (j_istore [some (.ref v0), some (.int v1), some (.int v2), some (.int v3), some (.int (((12 : Int32) * v1) + v2))] rfl rfl (Or.inr rfl) rfl (j_iload_n rfl rfl (g))))))))) ?_
  refine J_ite (fun h43 => ?_) (fun h43 => ?_)
  · refine J_bind fun x44 hx44 => ?_
    refine J_bind fun x45 hx45 => ?_
    exact J_some (fun h => j_if_f rfl (cc_ne_f h43) (j_aload_n rfl rfl (j_gfr rfl hx44 (j_iload rfl rfl (j_ial rfl hx45 (j_goto rfl (j_iret rfl rfl h)))))))
  refine q_J.step (fun g => j_if_t rfl (cc_ne_t h43) (j_iload_n rfl rfl (j_iconst (1 : Int32) rfl k32_1 (g)))) ?_
  refine J_ite (fun h46 => ?_) (fun h46 => ?_)
  · refine J_bind fun x47 hx47 => ?_
    refine J_bind fun x48 hx48 => ?_
    exact J_some (fun h => j_icmp_f rfl (cc_ne_f h46) (j_aload_n rfl rfl (j_gfr rfl hx47 (j_iload rfl rfl (j_ial rfl hx48 (j_goto rfl (j_iret rfl rfl h)))))))
  refine q_J.step (fun g => j_icmp_t rfl (cc_ne_t h46) (j_iload_n rfl rfl (j_iconst (2 : Int32) rfl k32_2 (g)))) ?_
  refine J_ite (fun h49 => ?_) (fun h49 => ?_)
  · refine J_bind fun x50 hx50 => ?_
    refine J_bind fun x51 hx51 => ?_
    refine J_cl fun x53 σ52 hσ52 => ?_
    exact J_some (fun h => j_icmp_f rfl (cc_ne_f h49) (j_aload_n rfl rfl (j_gfr rfl hx50 (j_iload rfl rfl (j_ial rfl hx51 (j_s1 [.int x51] [] rfl rfl rfl rfl rfl (t_Mo_wide (by omega) hσ52) (j_goto rfl (j_iret rfl rfl h))))))))
  refine q_J.step (fun g => j_icmp_t rfl (cc_ne_t h49) (j_iload_n rfl rfl (j_iconst (3 : Int32) rfl k32_3 (g)))) ?_
  refine J_ite (fun h54 => ?_) (fun h54 => ?_)
  · refine J_bind fun x55 hx55 => ?_
    refine J_bind fun x56 hx56 => ?_
    exact J_some (fun h => j_icmp_f rfl (cc_ne_f h54) (j_aload_n rfl rfl (j_gfr rfl hx55 (j_iload rfl rfl (j_ial rfl hx56 (j_goto rfl (j_iret rfl rfl h)))))))
  refine q_J.step (fun g => j_icmp_t rfl (cc_ne_t h54) (j_iload_n rfl rfl (j_iconst (4 : Int32) rfl k32_4 (g)))) ?_
  refine J_ite (fun h57 => ?_) (fun h57 => ?_)
  · refine J_bind fun x58 hx58 => ?_
    refine J_bind fun x59 hx59 => ?_
    exact J_some (fun h => j_icmp_f rfl (cc_ne_f h57) (j_aload_n rfl rfl (j_gfr rfl hx58 (j_iload rfl rfl (j_ial rfl hx59 (j_goto rfl (j_iret rfl rfl h)))))))
  refine J_bind fun x60 hx60 => ?_
  refine J_bind fun x61 hx61 => ?_
  refine J_bind fun x62 hx62 => ?_
  refine J_bind fun x63 hx63 => ?_
  refine q_J.step (fun g => j_icmp_t rfl (cc_ne_t h57) (j_aload_n rfl rfl (j_gfr rfl hx60 (j_iload rfl rfl (j_ial rfl hx61 (j_aload_n rfl rfl (j_gfr rfl hx62 (j_iload rfl rfl (j_lal rfl hx63 (j_lconst (0 : Int64) rfl kl_0 (j_lcmp rfl (g)))))))))))) ?_
  refine J_sq (fun (t65 : Int32) (σ66 : q_H) => q_G (q_rf fo) d m_Mo_line o σ' 147 [some (.ref v0), none, none, none, some (.int (((12 : Int32) * v1) + v2))] [.int t65, .int x61] σ66) ?_ (fun t65 σ66 => ?_)
  · refine J_ite (fun h64 => ?_) (fun h64 => ?_)
    · exact J_some (fun h => j_if_f rfl (lc_le_f h64) (j_bipush (16 : Int32) rfl kb_16 (j_goto rfl (j_weak (l := [some (.ref v0), none, none, none, some (.int (((12 : Int32) * v1) + v2))]) (And.intro (Or.inr rfl) (And.intro (Or.inl rfl) (And.intro (Or.inl rfl) (And.intro (Or.inl rfl) (And.intro (Or.inr rfl) True.intro))))) (h)))))
    exact J_some (fun h => j_if_t rfl (lc_le_t h64) (j_iconst (0 : Int32) rfl k32_0 (j_weak (l := [some (.ref v0), none, none, none, some (.int (((12 : Int32) * v1) + v2))]) (And.intro (Or.inr rfl) (And.intro (Or.inl rfl) (And.intro (Or.inl rfl) (And.intro (Or.inl rfl) (And.intro (Or.inr rfl) True.intro))))) (h))))
  refine J_bind fun x67 hx67 => ?_
  refine J_bind fun x68 hx68 => ?_
  refine q_J.step (fun g => j_iadd rfl (j_aload_n rfl rfl (j_gfr rfl hx67 (j_iload rfl rfl (j_lal rfl hx68 (j_lconst (0 : Int64) rfl kl_0 (j_lcmp rfl (g)))))))) ?_
  refine J_ite (fun h69 => ?_) (fun h69 => ?_)
  · exact J_some (fun h => j_if_f rfl (lc_le_f h69) (j_bipush (32 : Int32) rfl kb_32 (j_goto rfl (j_iadd rfl (j_iret rfl rfl h)))))
  exact J_some (fun h => j_if_t rfl (lc_le_t h69) (j_iconst (0 : Int32) rfl k32_0 (j_iadd rfl (j_iret rfl rfl h))))
theorem t_Mo_line {fo : Option Nat} {d : Nat} (hd : 5 ≤ d) {v0 : Nat} {v1 : Int32} {v2 : Int32} {v3 : Int32} {σ σ1 : q_H} {r : Int32} (h : f_Mo_line v0 v1 v2 v3 σ = some (r, σ1)) : q_Rel (q_rf fo) q_Ms d 179 [.ref v0, .int v1, .int v2, .int v3] σ (.inl (some (.int r))) σ1 := by
  obtain ⟨d, rfl⟩ : ∃ d1, d = d1 + 1 := ⟨d - 1, by omega⟩
  exact q_Rel.of rfl rfl (b_Mo_line hd _ _ _ _ σ _ _ h ⟨rfl, rfl⟩)

set_option maxRecDepth 100000 in
theorem l_Mo_read_L27 {fo : Option Nat} {d : Nat} (hd : 5 ≤ d + 1) {o : q_O} {σ' : q_H} {E : (Int32 ⊕ Unit) → q_H → Prop} (v0 : Nat) (v1 : Int32) (hR : ∀ r σ1, E (.inl r) σ1 → o = .inl (some (.int r)) ∧ σ' = σ1) (hX : ∀ (t : Unit) σ1, E (.inr t) σ1 → q_G (q_rf fo) d m_Mo_read o σ' 117 [some (.ref v0), some (.int v1), none] [] σ1)  : ∀ (n : Nat) (σ : q_H), q_J E (f_Mo_read_L27 v0 v1 n σ) (q_G (q_rf fo) d m_Mo_read o σ' 27 [some (.ref v0), some (.int v1), none] [] σ)
  | 0, σ => J_none
  | n + 1, σ => by
    unfold f_Mo_read_L27
    refine J_bind fun x1 hx1 => ?_
    refine q_J.step (fun g => j_aload_n rfl rfl (j_gfi rfl hx1 (g))) ?_
    refine J_ite (fun h2 => ?_) (fun h2 => ?_)
    · exact J_some (fun h => j_if_t rfl (cc_eq_t h2) (hX _ _ h))
    refine J_bind fun w3 hw3 => ?_
    refine J_cl fun x5 σ4 hσ4 => ?_
    refine q_J.step (fun g => j_if_f rfl (cc_eq_f h2) (j_aload_n rfl rfl (j_ldc2 (9518 : Int64) rfl kw_9518 (j_v1 [.ref v0, .long (9518 : Int64)] [] rfl rfl rfl rfl rfl rfl hw3 (Or.inl rfl) (t_Mo_isWord (by omega) hσ4) (g))))) ?_
    refine J_ite (fun h6 => ?_) (fun h6 => ?_)
    · refine J_bind fun w7 hw7 => ?_
      refine J_cl fun x9 σ8 hσ8 => ?_
      refine q_J.step (fun g => j_if_f rfl (cc_ne_f h6) (j_aload_n rfl rfl (j_ldc2 (12527906 : Int64) rfl kw_12527906 (j_v1 [.ref v0, .long (12527906 : Int64)] [] rfl rfl rfl rfl rfl rfl hw7 (Or.inl rfl) (t_Mo_isWord (by omega) hσ8) (g))))) ?_
      refine J_sq (fun (t11 : Int32) (σ12 : q_H) => q_G (q_rf fo) d m_Mo_read o σ' 59 [some (.ref v0), some (.int v1), none] [.int t11] σ12) ?_ (fun t11 σ12 => ?_)
      · refine J_ite (fun h10 => ?_) (fun h10 => ?_)
        · exact J_some (fun h => j_if_t rfl (cc_eq_t h10) (j_iconst (0 : Int32) rfl k32_0 (h)))
        exact J_some (fun h => j_if_f rfl (cc_eq_f h10) (j_iconst (1 : Int32) rfl k32_1 (j_goto rfl (h))))
      refine q_J.step (fun g => j_istore_n [some (.ref v0), some (.int v1), some (.int t11)] rfl rfl (Or.inr rfl) rfl (j_iload_n rfl rfl (g))) ?_
      refine J_sq (fun (t24 : Int32) (σ25 : q_H) => q_G (q_rf fo) d m_Mo_read o σ' 97 [some (.ref v0), some (.int v1), none] [.int t24] σ25) ?_ (fun t24 σ25 => ?_)
      · refine J_ite (fun h13 => ?_) (fun h13 => ?_)
        · refine J_bind fun w14 hw14 => ?_
          refine J_cl fun x16 σ15 hσ15 => ?_
          exact J_some (fun h => j_if_t rfl (cc_eq_t h13) (j_aload_n rfl rfl (j_iconst (1 : Int32) rfl k32_1 (j_v1 [.ref v0, .int (1 : Int32)] [] rfl rfl rfl rfl rfl rfl hw14 (Or.inl rfl) (t_Mo_errs (by omega) hσ15) (j_weak (l := [some (.ref v0), some (.int v1), none]) (And.intro (Or.inr rfl) (And.intro (Or.inr rfl) (And.intro (Or.inl rfl) True.intro))) (h))))))
        refine J_bind fun x17 hx17 => ?_
        refine J_bind fun x18 hx18 => ?_
        refine q_J.step (fun g => j_if_f rfl (cc_eq_f h13) (j_aload_n rfl rfl (j_gfr rfl hx17 (j_bipush (24 : Int32) rfl kb_24 (j_ial rfl hx18 (j_bipush (12 : Int32) rfl kb_12 (g))))))) ?_
        refine J_ite (fun h19 => ?_) (fun h19 => ?_)
        · exact J_some (fun h => j_icmp_t rfl (cc_lt_t h19) (j_iconst (1 : Int32) rfl k32_1 (j_goto rfl (j_weak (l := [some (.ref v0), some (.int v1), none]) (And.intro (Or.inr rfl) (And.intro (Or.inr rfl) (And.intro (Or.inl rfl) True.intro))) (h)))))
        refine J_bind fun w20 hw20 => ?_
        refine J_cl fun x22 σ21 hσ21 => ?_
        refine q_J.step (fun g => j_icmp_f rfl (cc_lt_f h19) (j_aload_n rfl rfl (j_iconst (5 : Int32) rfl k32_5 (j_v1 [.ref v0, .int (5 : Int32)] [] rfl rfl rfl rfl rfl rfl hw20 (Or.inl rfl) (t_Mo_errs (by omega) hσ21) (g))))) ?_
        refine J_ite (fun h23 => ?_) (fun h23 => ?_)
        · exact J_some (fun h => j_if_t rfl (cc_eq_t h23) (j_iconst (0 : Int32) rfl k32_0 (j_goto rfl (j_weak (l := [some (.ref v0), some (.int v1), none]) (And.intro (Or.inr rfl) (And.intro (Or.inr rfl) (And.intro (Or.inl rfl) True.intro))) (h)))))
        exact J_some (fun h => j_if_f rfl (cc_eq_f h23) (j_iconst (1 : Int32) rfl k32_1 (j_goto rfl (j_weak (l := [some (.ref v0), some (.int v1), none]) (And.intro (Or.inr rfl) (And.intro (Or.inr rfl) (And.intro (Or.inl rfl) True.intro))) (h)))))
      refine q_J.step (fun g => j_istore_n [some (.ref v0), some (.int v1), some (.int t24)] rfl rfl (Or.inr rfl) rfl (j_iload_n rfl rfl (g))) ?_
      refine J_ite (fun h26 => ?_) (fun h26 => ?_)
      · refine J_bind fun x27 hx27 => ?_
        exact J_some (fun h => j_if_t rfl (cc_eq_t h26) (j_aload_n rfl rfl (j_gfi rfl hx27 (j_iret rfl rfl (hR _ _ h)))))
      refine J_bind fun w28 hw28 => ?_
      refine J_cl fun x30 σ29 hσ29 => ?_
      refine q_J.step (fun g => j_if_f rfl (cc_eq_f h26) (j_aload_n rfl rfl (j_v1 [.ref v0] [] rfl rfl rfl rfl rfl rfl hw28 (Or.inl rfl) (t_Mo_readsLine (by omega) hσ29) (g)))) ?_
      refine J_ite (fun h31 => ?_) (fun h31 => ?_)
      · refine J_bind fun x32 hx32 => ?_
        exact J_some (fun h => j_if_f rfl (cc_ne_f h31) (j_aload_n rfl rfl (j_gfi rfl hx32 (j_iret rfl rfl (hR _ _ h)))))
      exact q_J.step (fun g => j_if_t rfl (cc_ne_t h31) (j_goto rfl (j_weak (l := [some (.ref v0), some (.int v1), none]) (And.intro (Or.inr rfl) (And.intro (Or.inr rfl) (And.intro (Or.inl rfl) True.intro))) (g)))) (l_Mo_read_L27 hd v0 v1 hR hX n σ29)
    refine q_J.step (fun g => j_if_t rfl (cc_ne_t h6) (j_iconst (1 : Int32) rfl k32_1 (j_goto rfl (j_istore_n [some (.ref v0), some (.int v1), some (.int (1 : Int32))] rfl rfl (Or.inr rfl) rfl (j_iload_n rfl rfl (g)))))) ?_
    refine J_sq (fun (t44 : Int32) (σ45 : q_H) => q_G (q_rf fo) d m_Mo_read o σ' 97 [some (.ref v0), some (.int v1), none] [.int t44] σ45) ?_ (fun t44 σ45 => ?_)
    · refine J_ite (fun h33 => ?_) (fun h33 => ?_)
      · refine J_bind fun w34 hw34 => ?_
        refine J_cl fun x36 σ35 hσ35 => ?_
        exact J_some (fun h => j_if_t rfl (cc_eq_t h33) (j_aload_n rfl rfl (j_iconst (1 : Int32) rfl k32_1 (j_v1 [.ref v0, .int (1 : Int32)] [] rfl rfl rfl rfl rfl rfl hw34 (Or.inl rfl) (t_Mo_errs (by omega) hσ35) (j_weak (l := [some (.ref v0), some (.int v1), none]) (And.intro (Or.inr rfl) (And.intro (Or.inr rfl) (And.intro (Or.inl rfl) True.intro))) (h))))))
      refine J_bind fun x37 hx37 => ?_
      refine J_bind fun x38 hx38 => ?_
      refine q_J.step (fun g => j_if_f rfl (cc_eq_f h33) (j_aload_n rfl rfl (j_gfr rfl hx37 (j_bipush (24 : Int32) rfl kb_24 (j_ial rfl hx38 (j_bipush (12 : Int32) rfl kb_12 (g))))))) ?_
      refine J_ite (fun h39 => ?_) (fun h39 => ?_)
      · exact J_some (fun h => j_icmp_t rfl (cc_lt_t h39) (j_iconst (1 : Int32) rfl k32_1 (j_goto rfl (j_weak (l := [some (.ref v0), some (.int v1), none]) (And.intro (Or.inr rfl) (And.intro (Or.inr rfl) (And.intro (Or.inl rfl) True.intro))) (h)))))
      refine J_bind fun w40 hw40 => ?_
      refine J_cl fun x42 σ41 hσ41 => ?_
      refine q_J.step (fun g => j_icmp_f rfl (cc_lt_f h39) (j_aload_n rfl rfl (j_iconst (5 : Int32) rfl k32_5 (j_v1 [.ref v0, .int (5 : Int32)] [] rfl rfl rfl rfl rfl rfl hw40 (Or.inl rfl) (t_Mo_errs (by omega) hσ41) (g))))) ?_
      refine J_ite (fun h43 => ?_) (fun h43 => ?_)
      · exact J_some (fun h => j_if_t rfl (cc_eq_t h43) (j_iconst (0 : Int32) rfl k32_0 (j_goto rfl (j_weak (l := [some (.ref v0), some (.int v1), none]) (And.intro (Or.inr rfl) (And.intro (Or.inr rfl) (And.intro (Or.inl rfl) True.intro))) (h)))))
      exact J_some (fun h => j_if_f rfl (cc_eq_f h43) (j_iconst (1 : Int32) rfl k32_1 (j_goto rfl (j_weak (l := [some (.ref v0), some (.int v1), none]) (And.intro (Or.inr rfl) (And.intro (Or.inr rfl) (And.intro (Or.inl rfl) True.intro))) (h)))))
    refine q_J.step (fun g => j_istore_n [some (.ref v0), some (.int v1), some (.int t44)] rfl rfl (Or.inr rfl) rfl (j_iload_n rfl rfl (g))) ?_
    refine J_ite (fun h46 => ?_) (fun h46 => ?_)
    · refine J_bind fun x47 hx47 => ?_
      exact J_some (fun h => j_if_t rfl (cc_eq_t h46) (j_aload_n rfl rfl (j_gfi rfl hx47 (j_iret rfl rfl (hR _ _ h)))))
    refine J_bind fun w48 hw48 => ?_
    refine J_cl fun x50 σ49 hσ49 => ?_
    refine q_J.step (fun g => j_if_f rfl (cc_eq_f h46) (j_aload_n rfl rfl (j_v1 [.ref v0] [] rfl rfl rfl rfl rfl rfl hw48 (Or.inl rfl) (t_Mo_readsLine (by omega) hσ49) (g)))) ?_
    refine J_ite (fun h51 => ?_) (fun h51 => ?_)
    · refine J_bind fun x52 hx52 => ?_
      exact J_some (fun h => j_if_f rfl (cc_ne_f h51) (j_aload_n rfl rfl (j_gfi rfl hx52 (j_iret rfl rfl (hR _ _ h)))))
    exact q_J.step (fun g => j_if_t rfl (cc_ne_t h51) (j_goto rfl (j_weak (l := [some (.ref v0), some (.int v1), none]) (And.intro (Or.inr rfl) (And.intro (Or.inr rfl) (And.intro (Or.inl rfl) True.intro))) (g)))) (l_Mo_read_L27 hd v0 v1 hR hX n σ49)

set_option maxRecDepth 100000 in
theorem l_Mo_read_L119 {fo : Option Nat} {d : Nat} (hd : 5 ≤ d + 1) {o : q_O} {σ' : q_H} {E : (Unit) → q_H → Prop} (v0 : Nat) (v1 : Int32) (hX : ∀ (t : Unit) σ1, E (t) σ1 → q_G (q_rf fo) d m_Mo_read o σ' 146 [some (.ref v0), some (.int v1), none] [] σ1)  : ∀ (n : Nat) (v2 : Int32) (σ : q_H), q_J E (f_Mo_read_L119 v0 v1 n v2 σ) (q_G (q_rf fo) d m_Mo_read o σ' 119 [some (.ref v0), some (.int v1), some (.int v2)] [] σ)
  | 0, v2, σ => J_none
  | n + 1, v2, σ => by
    unfold f_Mo_read_L119
    refine q_J.step (fun g => j_iload_n rfl rfl (j_bipush (12 : Int32) rfl kb_12 (g))) ?_
    refine J_ite (fun h1 => ?_) (fun h1 => ?_)
    · refine J_bind fun w2 hw2 => ?_
      refine J_cl fun _ σ3 hσ3 => ?_
      exact q_J.step (fun g => j_icmp_f rfl (cc_ge_f h1) (j_aload_n rfl rfl (j_sipush (288 : Int32) rfl ks_288 (j_iload_n rfl rfl (j_iadd rfl (j_bipush (12 : Int32) rfl kb_12 (j_iload_n rfl rfl (j_imul rfl (j_iload_n rfl rfl (j_iadd rfl (j_v0 [.ref v0, .int ((288 : Int32) + v2), .int (((12 : Int32) * v1) + v2)] [] rfl rfl rfl rfl rfl rfl hw2 (Or.inl rfl) (t_Mo_copies (by omega) hσ3) (j_iinc [some (.ref v0), some (.int v1), some (.int (v2 + (1 : Int32)))] (v2 + (1 : Int32)) rfl rfl (by rw [k32_1]) (Or.inr rfl) rfl (j_goto rfl (g)))))))))))))) (l_Mo_read_L119 hd v0 v1 hX n (v2 + (1 : Int32)) σ3)
    exact J_some (fun h => j_icmp_t rfl (cc_ge_t h1) (j_weak (l := [some (.ref v0), some (.int v1), none]) (And.intro (Or.inr rfl) (And.intro (Or.inr rfl) (And.intro (Or.inl rfl) True.intro))) (hX _ _ h)))

set_option maxRecDepth 100000 in
theorem b_Mo_read {fo : Option Nat} {d : Nat} (hd : 5 ≤ d + 1) {o : q_O} {σ' : q_H} (v0 : Nat) (v1 : Int32) (σ : q_H) : q_J (fun (r : Int32) (σ1 : q_H) => o = .inl (some (.int r)) ∧ σ' = σ1) (f_Mo_read v0 v1 σ) (q_G (q_rf fo) d m_Mo_read o σ' 0 [some (.ref v0), some (.int v1), none] [] σ) := by
  unfold f_Mo_read
  refine J_bind fun σ1 hσ1 => ?_
  refine J_bind fun w2 hw2 => ?_
  refine J_cl fun _ σ3 hσ3 => ?_
  refine J_bind fun w5 hw5 => ?_
  refine J_cl fun x7 σ6 hσ6 => ?_
  refine q_J.step (fun g => j_aload_n rfl rfl (j_iconst (0 : Int32) rfl k32_0 (j_putf rfl rfl rfl rfl hσ1 (j_aload_n rfl rfl (j_v0 [.ref v0] [] rfl rfl rfl rfl rfl rfl hw2 (Or.inl rfl) (t_Mo_starts (by omega) hσ3) (j_aload_n rfl rfl (j_iload_n rfl rfl (j_v1 [.ref v0, .int v1] [] rfl rfl rfl rfl rfl rfl hw5 (Or.inl rfl) (t_Mo_isSheet (by omega) hσ6) (g))))))))) ?_
  refine J_ite (fun h8 => ?_) (fun h8 => ?_)
  · exact J_some (fun h => j_if_f rfl (cc_ne_f h8) (j_iconst (-1 : Int32) rfl k32_m1 (j_iret rfl rfl h)))
  refine J_bind fun x9 hx9 => ?_
  refine J_bind fun σ10 hσ10 => ?_
  refine J_sq (fun (t0 : Int32 ⊕ Unit) (σ12 : q_H) => match t0 with | .inl r => o = .inl (some (.int r)) ∧ σ' = σ12 | .inr t11 => q_G (q_rf fo) d m_Mo_read o σ' 117 [some (.ref v0), some (.int v1), none] [] σ12) (q_J.step (fun g => j_if_t rfl (cc_ne_t h8) (j_aload_n rfl rfl (j_gfr rfl hx9 (j_bipush (24 : Int32) rfl kb_24 (j_iconst (0 : Int32) rfl k32_0 (j_ias rfl hσ10 (g))))))) (l_Mo_read_L27 hd v0 v1 (fun _ _ h => h) (fun _ _ h => h) q_FU σ10)) (fun t0 σ12 => ?_)
  cases t0 with
  | inl r21 => exact J_some (fun h => h)
  | inr t11 =>
    refine J_sq (fun (t13 : Unit) (σ14 : q_H) => q_G (q_rf fo) d m_Mo_read o σ' 146 [some (.ref v0), some (.int v1), none] [] σ14) (q_J.step (fun g => j_iconst (0 : Int32) rfl k32_0 (j_istore_n [some (.ref v0), some (.int v1), some (.int (0 : Int32))] rfl rfl (Or.inr rfl) rfl (g))) (l_Mo_read_L119 hd v0 v1 (fun _ _ h => h) q_FU (0 : Int32) σ12)) (fun t13 σ14 => ?_)
    refine J_bind fun x15 hx15 => ?_
    refine J_bind fun x16 hx16 => ?_
    refine J_bind fun x17 hx17 => ?_
    refine J_bind fun σ18 hσ18 => ?_
    refine J_bind fun x19 hx19 => ?_
    refine J_bind fun σ20 hσ20 => ?_
    exact J_some (fun h => j_aload_n rfl rfl (j_gfr rfl hx15 (j_iload_n rfl rfl (j_aload_n rfl rfl (j_gfr rfl hx16 (j_bipush (24 : Int32) rfl kb_24 (j_ial rfl hx17 (j_ias rfl hσ18 (j_aload_n rfl rfl (j_gfr rfl hx19 (j_iload_n rfl rfl (j_iconst (1 : Int32) rfl k32_1 (j_bas rfl (by decide) hσ20 (j_iconst (0 : Int32) rfl k32_0 (j_iret rfl rfl h)))))))))))))))
theorem t_Mo_read {fo : Option Nat} {d : Nat} (hd : 5 ≤ d) {v0 : Nat} {v1 : Int32} {σ σ1 : q_H} {r : Int32} (h : f_Mo_read v0 v1 σ = some (r, σ1)) : q_Rel (q_rf fo) q_Ms d 183 [.ref v0, .int v1] σ (.inl (some (.int r))) σ1 := by
  obtain ⟨d, rfl⟩ : ∃ d1, d = d1 + 1 := ⟨d - 1, by omega⟩
  exact q_Rel.of rfl rfl (b_Mo_read hd _ _ σ _ _ h ⟨rfl, rfl⟩)

set_option maxRecDepth 100000 in
theorem b_Mo_kin {fo : Option Nat} {d : Nat} (hd : 5 ≤ d + 1) {o : q_O} {σ' : q_H} (v0 : Nat) (v1 : Int32) (v2 : Int32) (v3 : Int32) (σ : q_H) : q_J (fun (r : Int32) (σ1 : q_H) => o = .inl (some (.int r)) ∧ σ' = σ1) (f_Mo_kin v0 v1 v2 v3 σ) (q_G (q_rf fo) d m_Mo_kin o σ' 0 [some (.ref v0), some (.int v1), some (.int v2), some (.int v3)] [] σ) := by
  unfold f_Mo_kin
  refine J_bind fun σ1 hσ1 => ?_
  refine J_bind fun w2 hw2 => ?_
  refine J_cl fun x4 σ3 hσ3 => ?_
  refine q_J.step (fun g => j_aload_n rfl rfl (j_iconst (0 : Int32) rfl k32_0 (j_putf rfl rfl rfl rfl hσ1 (j_aload_n rfl rfl (j_iload_n rfl rfl (j_iload_n rfl rfl (j_v1 [.ref v0, .int v1, .int v2] [] rfl rfl rfl rfl rfl rfl hw2 (Or.inl rfl) (t_Mo_isLine (by omega) hσ3) (g)))))))) ?_
  refine J_ite (fun h5 => ?_) (fun h5 => ?_)
  · exact J_some (fun h => j_if_t rfl (cc_eq_t h5) (j_iconst (-1 : Int32) rfl k32_m1 (j_iret rfl rfl h)))
  refine J_bind fun w6 hw6 => ?_
  refine J_cl fun x8 σ7 hσ7 => ?_
  refine q_J.step (fun g => j_if_f rfl (cc_eq_f h5) (j_aload_n rfl rfl (j_iload_n rfl rfl (j_iload_n rfl rfl (j_v1 [.ref v0, .int v1, .int v3] [] rfl rfl rfl rfl rfl rfl hw6 (Or.inl rfl) (t_Mo_isLine (by omega) hσ7) (g)))))) ?_
  refine J_ite (fun h9 => ?_) (fun h9 => ?_)
  · exact J_some (fun h => j_if_t rfl (cc_eq_t h9) (j_iconst (-1 : Int32) rfl k32_m1 (j_iret rfl rfl h)))
  refine q_J.step (fun g => j_if_f rfl (cc_eq_f h9) (j_iload_n rfl rfl (j_iload_n rfl rfl (g)))) ?_
  refine J_ite (fun h10 => ?_) (fun h10 => ?_)
  · exact J_some (fun h => j_icmp_t rfl (cc_eq_t h10) (j_iconst (-1 : Int32) rfl k32_m1 (j_iret rfl rfl h)))
  refine J_bind fun w11 hw11 => ?_
  refine J_cl fun x13 σ12 hσ12 => ?_
  exact J_some (fun h => j_icmp_f rfl (cc_eq_f h10) (j_aload_n rfl rfl (j_bipush (12 : Int32) rfl kb_12 (j_iload_n rfl rfl (j_imul rfl (j_iload_n rfl rfl (j_iadd rfl (j_bipush (12 : Int32) rfl kb_12 (j_iload_n rfl rfl (j_imul rfl (j_iload_n rfl rfl (j_iadd rfl (j_v1 [.ref v0, .int (((12 : Int32) * v1) + v2), .int (((12 : Int32) * v1) + v3)] [] rfl rfl rfl rfl rfl rfl hw11 (Or.inl rfl) (t_Mo_kinOf (by omega) hσ12) (j_goto rfl (j_iret rfl rfl h)))))))))))))))
theorem t_Mo_kin {fo : Option Nat} {d : Nat} (hd : 5 ≤ d) {v0 : Nat} {v1 : Int32} {v2 : Int32} {v3 : Int32} {σ σ1 : q_H} {r : Int32} (h : f_Mo_kin v0 v1 v2 v3 σ = some (r, σ1)) : q_Rel (q_rf fo) q_Ms d 197 [.ref v0, .int v1, .int v2, .int v3] σ (.inl (some (.int r))) σ1 := by
  obtain ⟨d, rfl⟩ : ∃ d1, d = d1 + 1 := ⟨d - 1, by omega⟩
  exact q_Rel.of rfl rfl (b_Mo_kin hd _ _ _ _ σ _ _ h ⟨rfl, rfl⟩)

set_option maxRecDepth 100000 in
theorem b_Mo_isWife {fo : Option Nat} {d : Nat} (hd : 5 ≤ d + 1) {o : q_O} {σ' : q_H} (v0 : Nat) (v1 : Int32) (v2 : Int32) (σ : q_H) : q_J (fun (r : Int32) (σ1 : q_H) => o = .inl (some (.int r)) ∧ σ' = σ1) (f_Mo_isWife v0 v1 v2 σ) (q_G (q_rf fo) d m_Mo_isWife o σ' 0 [some (.ref v0), some (.int v1), some (.int v2)] [] σ) := by
  unfold f_Mo_isWife
  refine J_bind fun w1 hw1 => ?_
  refine J_cl fun x3 σ2 hσ2 => ?_
  refine q_J.step (fun g => j_aload_n rfl rfl (j_iload_n rfl rfl (j_iload_n rfl rfl (j_v1 [.ref v0, .int v1, .int v2] [] rfl rfl rfl rfl rfl rfl hw1 (Or.inl rfl) (t_Mo_isLine (by omega) hσ2) (g))))) ?_
  refine J_ite (fun h4 => ?_) (fun h4 => ?_)
  · exact J_some (fun h => j_if_t rfl (cc_eq_t h4) (j_iconst (0 : Int32) rfl k32_0 (j_iret rfl (q_zr (Or.inl rfl)) h)))
  refine J_bind fun x5 hx5 => ?_
  refine J_bind fun x6 hx6 => ?_
  refine q_J.step (fun g => j_if_f rfl (cc_eq_f h4) (j_aload_n rfl rfl (j_gfr rfl hx5 (j_bipush (12 : Int32) rfl kb_12 (j_iload_n rfl rfl (j_imul rfl (j_iload_n rfl rfl (j_iadd rfl (j_ial rfl hx6 (g)))))))))) ?_
  refine J_ite (fun h7 => ?_) (fun h7 => ?_)
  · exact J_some (fun h => j_if_t rfl (cc_lt_t h7) (j_iconst (0 : Int32) rfl k32_0 (j_iret rfl (q_zr (Or.inl rfl)) h)))
  exact J_some (fun h => j_if_f rfl (cc_lt_f h7) (j_iconst (1 : Int32) rfl k32_1 (j_goto rfl (j_iret rfl (q_zr (Or.inr rfl)) h))))
theorem t_Mo_isWife {fo : Option Nat} {d : Nat} (hd : 5 ≤ d) {v0 : Nat} {v1 : Int32} {v2 : Int32} {σ σ1 : q_H} {r : Int32} (h : f_Mo_isWife v0 v1 v2 σ = some (r, σ1)) : q_Rel (q_rf fo) q_Ms d 200 [.ref v0, .int v1, .int v2] σ (.inl (some (.int r))) σ1 := by
  obtain ⟨d, rfl⟩ : ∃ d1, d = d1 + 1 := ⟨d - 1, by omega⟩
  exact q_Rel.of rfl rfl (b_Mo_isWife hd _ _ _ σ _ _ h ⟨rfl, rfl⟩)

set_option maxRecDepth 100000 in
theorem l_Mo_heaping_L62 {fo : Option Nat} {d : Nat} (hd : 5 ≤ d + 1) {o : q_O} {σ' : q_H} {E : (Int32 × Int32) → q_H → Prop} (v0 : Nat) (v1 : Int32) (v2 : Int32) (v3 : Int32) (v6 : Int32) (hX : ∀ (t : Int32 × Int32) σ1, E (t) σ1 → q_G (q_rf fo) d m_Mo_heaping o σ' 131 [some (.ref v0), some (.int v1), some (.int v2), some (.int v3), some (.int t.1), some (.int t.2), some (.int v6), none] [] σ1)  : ∀ (n : Nat) (v4 : Int32) (v5 : Int32) (v7 : Int32) (σ : q_H), q_J E (f_Mo_heaping_L62 v0 v1 v2 v3 v6 n v4 v5 v7 σ) (q_G (q_rf fo) d m_Mo_heaping o σ' 62 [some (.ref v0), some (.int v1), some (.int v2), some (.int v3), some (.int v4), some (.int v5), some (.int v6), some (.int v7)] [] σ)
  | 0, v4, v5, v7, σ => J_none
  | n + 1, v4, v5, v7, σ => by
    unfold f_Mo_heaping_L62
    refine J_bind fun x1 hx1 => ?_
    refine J_bind fun x2 hx2 => ?_
    refine q_J.step (fun g => j_iload rfl rfl (j_bipush (12 : Int32) rfl kb_12 (j_iload rfl rfl (j_imul rfl (j_aload_n rfl rfl (j_gfr rfl hx1 (j_iload rfl rfl (j_ial rfl hx2 (j_iadd rfl (g)))))))))) ?_
    refine J_ite (fun h3 => ?_) (fun h3 => ?_)
    · refine J_bind fun x4 hx4 => ?_
      refine J_bind fun x5 hx5 => ?_
      refine J_cl fun x7 σ6 hσ6 => ?_
      refine q_J.step (fun g => j_icmp_f rfl (cc_ge_f h3) (j_aload_n rfl rfl (j_gfr rfl hx4 (j_iload rfl rfl (j_ial rfl hx5 (j_bipush (10 : Int32) rfl kb_10 (j_bipush (69 : Int32) rfl kb_69 (j_s1 [.int x5, .int (10 : Int32), .int (69 : Int32)] [] rfl rfl rfl rfl rfl (t_Mo_within (by omega) hσ6) (g))))))))) ?_
      refine J_ite (fun h8 => ?_) (fun h8 => ?_)
      · exact q_J.step (fun g => j_if_f rfl (cc_ne_f h8) (j_goto rfl (j_iinc [some (.ref v0), some (.int v1), some (.int v2), some (.int v3), some (.int v4), some (.int v5), some (.int v6), some (.int (v7 + (1 : Int32)))] (v7 + (1 : Int32)) rfl rfl (by rw [k32_1]) (Or.inr rfl) rfl (j_goto rfl (g))))) (l_Mo_heaping_L62 hd v0 v1 v2 v3 v6 hX n v4 v5 (v7 + (1 : Int32)) σ6)
      refine J_bind fun x9 hx9 => ?_
      refine J_bind fun x10 hx10 => ?_
      refine q_J.step (fun g => j_if_t rfl (cc_ne_t h8) (j_iinc [some (.ref v0), some (.int v1), some (.int v2), some (.int v3), some (.int v4), some (.int (v5 + (1 : Int32))), some (.int v6), some (.int v7)] (v5 + (1 : Int32)) rfl rfl (by rw [k32_1]) (Or.inr rfl) rfl (j_iload rfl rfl (j_aload_n rfl rfl (j_gfr rfl hx9 (j_iload rfl rfl (j_ial rfl hx10 (j_iconst (5 : Int32) rfl k32_5 (j_irem rfl (by decide) (g)))))))))) ?_
      refine J_ite (fun h11 => ?_) (fun h11 => ?_)
      · exact q_J.step (fun g => j_if_f rfl (cc_ne_f h11) (j_iconst (5 : Int32) rfl k32_5 (j_goto rfl (j_iadd rfl (j_istore [some (.ref v0), some (.int v1), some (.int v2), some (.int v3), some (.int (v4 + (5 : Int32))), some (.int (v5 + (1 : Int32))), some (.int v6), some (.int v7)] rfl rfl (Or.inr rfl) rfl (j_iinc [some (.ref v0), some (.int v1), some (.int v2), some (.int v3), some (.int (v4 + (5 : Int32))), some (.int (v5 + (1 : Int32))), some (.int v6), some (.int (v7 + (1 : Int32)))] (v7 + (1 : Int32)) rfl rfl (by rw [k32_1]) (Or.inr rfl) rfl (j_goto rfl (g)))))))) (l_Mo_heaping_L62 hd v0 v1 v2 v3 v6 hX n (v4 + (5 : Int32)) (v5 + (1 : Int32)) (v7 + (1 : Int32)) σ6)
      exact q_J.step (fun g => j_if_t rfl (cc_ne_t h11) (j_iconst (0 : Int32) rfl k32_0 (j_iadd rfl (j_istore [some (.ref v0), some (.int v1), some (.int v2), some (.int v3), some (.int (v4 + (0 : Int32))), some (.int (v5 + (1 : Int32))), some (.int v6), some (.int v7)] rfl rfl (Or.inr rfl) rfl (j_iinc [some (.ref v0), some (.int v1), some (.int v2), some (.int v3), some (.int (v4 + (0 : Int32))), some (.int (v5 + (1 : Int32))), some (.int v6), some (.int (v7 + (1 : Int32)))] (v7 + (1 : Int32)) rfl rfl (by rw [k32_1]) (Or.inr rfl) rfl (j_goto rfl (g))))))) (l_Mo_heaping_L62 hd v0 v1 v2 v3 v6 hX n (v4 + (0 : Int32)) (v5 + (1 : Int32)) (v7 + (1 : Int32)) σ6)
    exact J_some (fun h => j_icmp_t rfl (cc_ge_t h3) (j_weak (l := [some (.ref v0), some (.int v1), some (.int v2), some (.int v3), some (.int v4), some (.int v5), some (.int v6), none]) (And.intro (Or.inr rfl) (And.intro (Or.inr rfl) (And.intro (Or.inr rfl) (And.intro (Or.inr rfl) (And.intro (Or.inr rfl) (And.intro (Or.inr rfl) (And.intro (Or.inr rfl) (And.intro (Or.inl rfl) True.intro)))))))) (hX _ _ h)))

set_option maxRecDepth 100000 in
theorem l_Mo_heaping_L34 {fo : Option Nat} {d : Nat} (hd : 5 ≤ d + 1) {o : q_O} {σ' : q_H} {E : (Int32 × Int32) → q_H → Prop} (v0 : Nat) (v1 : Int32) (v2 : Int32) (v3 : Int32) (hX : ∀ (t : Int32 × Int32) σ1, E (t) σ1 → q_G (q_rf fo) d m_Mo_heaping o σ' 137 [none, none, none, some (.int v3), some (.int t.1), some (.int t.2), none, none] [] σ1)  : ∀ (n : Nat) (v4 : Int32) (v5 : Int32) (v6 : Int32) (σ : q_H), q_J E (f_Mo_heaping_L34 v0 v1 v2 v3 n v4 v5 v6 σ) (q_G (q_rf fo) d m_Mo_heaping o σ' 34 [some (.ref v0), some (.int v1), some (.int v2), some (.int v3), some (.int v4), some (.int v5), some (.int v6), none] [] σ)
  | 0, v4, v5, v6, σ => J_none
  | n + 1, v4, v5, v6, σ => by
    unfold f_Mo_heaping_L34
    refine q_J.step (fun g => j_iload rfl rfl (j_bipush (24 : Int32) rfl kb_24 (g))) ?_
    refine J_ite (fun h1 => ?_) (fun h1 => ?_)
    · refine J_bind fun w2 hw2 => ?_
      refine J_cl fun x4 σ3 hσ3 => ?_
      refine q_J.step (fun g => j_icmp_f rfl (cc_ge_f h1) (j_aload_n rfl rfl (j_iload rfl rfl (j_iload_n rfl rfl (j_iload_n rfl rfl (j_v1 [.ref v0, .int v6, .int v1, .int v2] [] rfl rfl rfl rfl rfl rfl hw2 (Or.inl rfl) (t_Mo_isIn (by omega) hσ3) (g))))))) ?_
      refine J_ite (fun h5 => ?_) (fun h5 => ?_)
      · exact q_J.step (fun g => j_if_f rfl (cc_ne_f h5) (j_goto rfl (j_iinc [some (.ref v0), some (.int v1), some (.int v2), some (.int v3), some (.int v4), some (.int v5), some (.int (v6 + (1 : Int32))), none] (v6 + (1 : Int32)) rfl rfl (by rw [k32_1]) (Or.inr rfl) rfl (j_goto rfl (g))))) (l_Mo_heaping_L34 hd v0 v1 v2 v3 hX n v4 v5 (v6 + (1 : Int32)) σ3)
      refine J_sq (fun (t6 : Int32 × Int32) (σ7 : q_H) => q_G (q_rf fo) d m_Mo_heaping o σ' 131 [some (.ref v0), some (.int v1), some (.int v2), some (.int v3), some (.int t6.1), some (.int t6.2), some (.int v6), none] [] σ7) (q_J.step (fun g => j_if_t rfl (cc_ne_t h5) (j_bipush (12 : Int32) rfl kb_12 (j_iload rfl rfl (j_imul rfl (j_istore [some (.ref v0), some (.int v1), some (.int v2), some (.int v3), some (.int v4), some (.int v5), some (.int v6), some (.int ((12 : Int32) * v6))] rfl rfl (Or.inr rfl) rfl (g)))))) (l_Mo_heaping_L62 hd v0 v1 v2 v3 v6 (fun _ _ h => h) q_FU v4 v5 ((12 : Int32) * v6) σ3)) (fun t6 σ7 => ?_)
      exact q_J.step (fun g => j_iinc [some (.ref v0), some (.int v1), some (.int v2), some (.int v3), some (.int t6.1), some (.int t6.2), some (.int (v6 + (1 : Int32))), none] (v6 + (1 : Int32)) rfl rfl (by rw [k32_1]) (Or.inr rfl) rfl (j_goto rfl (g))) (l_Mo_heaping_L34 hd v0 v1 v2 v3 hX n t6.1 t6.2 (v6 + (1 : Int32)) σ7)
    exact J_some (fun h => j_icmp_t rfl (cc_ge_t h1) (j_weak (l := [none, none, none, some (.int v3), some (.int v4), some (.int v5), none, none]) (And.intro (Or.inl rfl) (And.intro (Or.inl rfl) (And.intro (Or.inl rfl) (And.intro (Or.inr rfl) (And.intro (Or.inr rfl) (And.intro (Or.inr rfl) (And.intro (Or.inl rfl) (And.intro (Or.inr rfl) True.intro)))))))) (hX _ _ h)))

set_option maxRecDepth 100000 in
theorem b_Mo_heaping {fo : Option Nat} {d : Nat} (hd : 5 ≤ d + 1) {o : q_O} {σ' : q_H} (v0 : Nat) (v1 : Int32) (v2 : Int32) (v3 : Int32) (σ : q_H) : q_J (fun (r : Int32) (σ1 : q_H) => o = .inl (some (.int r)) ∧ σ' = σ1) (f_Mo_heaping v0 v1 v2 v3 σ) (q_G (q_rf fo) d m_Mo_heaping o σ' 0 [some (.ref v0), some (.int v1), some (.int v2), some (.int v3), none, none, none, none] [] σ) := by
  unfold f_Mo_heaping
  refine J_bind fun σ1 hσ1 => ?_
  refine J_bind fun w2 hw2 => ?_
  refine J_cl fun x4 σ3 hσ3 => ?_
  refine q_J.step (fun g => j_aload_n rfl rfl (j_iconst (0 : Int32) rfl k32_0 (j_putf rfl rfl rfl rfl hσ1 (j_aload_n rfl rfl (j_iload_n rfl rfl (j_iload_n rfl rfl (j_v1 [.ref v0, .int v1, .int v2] [] rfl rfl rfl rfl rfl rfl hw2 (Or.inl rfl) (t_Mo_isScope (by omega) hσ3) (g)))))))) ?_
  refine J_ite (fun h5 => ?_) (fun h5 => ?_)
  · exact J_some (fun h => j_if_t rfl (cc_eq_t h5) (j_iconst (-1 : Int32) rfl k32_m1 (j_iret rfl rfl h)))
  refine J_cl fun x7 σ6 hσ6 => ?_
  refine q_J.step (fun g => j_if_f rfl (cc_eq_f h5) (j_iload_n rfl rfl (j_iconst (0 : Int32) rfl k32_0 (j_iconst (1 : Int32) rfl k32_1 (j_s1 [.int v3, .int (0 : Int32), .int (1 : Int32)] [] rfl rfl rfl rfl rfl (t_Mo_within (by omega) hσ6) (g)))))) ?_
  refine J_ite (fun h8 => ?_) (fun h8 => ?_)
  · exact J_some (fun h => j_if_f rfl (cc_ne_f h8) (j_iconst (-1 : Int32) rfl k32_m1 (j_iret rfl rfl h)))
  refine J_sq (fun (t9 : Int32 × Int32) (σ10 : q_H) => q_G (q_rf fo) d m_Mo_heaping o σ' 137 [none, none, none, some (.int v3), some (.int t9.1), some (.int t9.2), none, none] [] σ10) (q_J.step (fun g => j_if_t rfl (cc_ne_t h8) (j_iconst (0 : Int32) rfl k32_0 (j_istore [some (.ref v0), some (.int v1), some (.int v2), some (.int v3), some (.int (0 : Int32)), none, none, none] rfl rfl (Or.inr rfl) rfl (j_iconst (0 : Int32) rfl k32_0 (j_istore [some (.ref v0), some (.int v1), some (.int v2), some (.int v3), some (.int (0 : Int32)), some (.int (0 : Int32)), none, none] rfl rfl (Or.inr rfl) rfl (j_iconst (0 : Int32) rfl k32_0 (j_istore [some (.ref v0), some (.int v1), some (.int v2), some (.int v3), some (.int (0 : Int32)), some (.int (0 : Int32)), some (.int (0 : Int32)), none] rfl rfl (Or.inr rfl) rfl (g)))))))) (l_Mo_heaping_L34 hd v0 v1 v2 v3 (fun _ _ h => h) q_FU (0 : Int32) (0 : Int32) (0 : Int32) σ6)) (fun t9 σ10 => ?_)
  refine q_J.step (fun g => j_iload rfl rfl (g)) ?_
  refine J_ite (fun h11 => ?_) (fun h11 => ?_)
  · exact J_some (fun h => j_if_f rfl (cc_ne_f h11) (j_iconst (-1 : Int32) rfl k32_m1 (j_goto rfl (j_iret rfl rfl h))))
  refine J_cl fun x13 σ12 hσ12 => ?_
  exact J_some (fun h => j_if_t rfl (cc_ne_t h11) (j_iload rfl rfl (j_i2l rfl (j_iload rfl rfl (j_i2l rfl (j_iload_n rfl rfl (j_s1 [.long t9.1.toInt64, .long t9.2.toInt64, .int v3] [] rfl rfl rfl rfl rfl (t_Mo_lowest (by omega) hσ12) (j_l2i rfl (j_iret rfl rfl h)))))))))
theorem t_Mo_heaping {fo : Option Nat} {d : Nat} (hd : 5 ≤ d) {v0 : Nat} {v1 : Int32} {v2 : Int32} {v3 : Int32} {σ σ1 : q_H} {r : Int32} (h : f_Mo_heaping v0 v1 v2 v3 σ = some (r, σ1)) : q_Rel (q_rf fo) q_Ms d 218 [.ref v0, .int v1, .int v2, .int v3] σ (.inl (some (.int r))) σ1 := by
  obtain ⟨d, rfl⟩ : ∃ d1, d = d1 + 1 := ⟨d - 1, by omega⟩
  exact q_Rel.of rfl rfl (b_Mo_heaping hd _ _ _ _ σ _ _ h ⟨rfl, rfl⟩)

set_option maxRecDepth 100000 in
theorem b_Mo_one {fo : Option Nat} {d : Nat} (hd : 5 ≤ d + 1) {o : q_O} {σ' : q_H} (v0 : Nat) (v1 : Int32) (v2 : Int32) (v3 : Int32) (σ : q_H) : q_J (fun (r : Int32) (σ1 : q_H) => o = .inl (some (.int r)) ∧ σ' = σ1) (f_Mo_one v0 v1 v2 v3 σ) (q_G (q_rf fo) d m_Mo_one o σ' 0 [some (.ref v0), some (.int v1), some (.int v2), some (.int v3)] [] σ) := by
  unfold f_Mo_one
  refine J_bind fun σ1 hσ1 => ?_
  refine J_bind fun w2 hw2 => ?_
  refine J_cl fun x4 σ3 hσ3 => ?_
  refine q_J.step (fun g => j_aload_n rfl rfl (j_iconst (0 : Int32) rfl k32_0 (j_putf rfl rfl rfl rfl hσ1 (j_aload_n rfl rfl (j_iload_n rfl rfl (j_iload_n rfl rfl (j_v1 [.ref v0, .int v1, .int v2] [] rfl rfl rfl rfl rfl rfl hw2 (Or.inl rfl) (t_Mo_isLine (by omega) hσ3) (g)))))))) ?_
  refine J_ite (fun h5 => ?_) (fun h5 => ?_)
  · exact J_some (fun h => j_if_t rfl (cc_eq_t h5) (j_iconst (-1 : Int32) rfl k32_m1 (j_iret rfl rfl h)))
  refine J_cl fun x7 σ6 hσ6 => ?_
  refine q_J.step (fun g => j_if_f rfl (cc_eq_f h5) (j_aload_n rfl rfl (j_iload_n rfl rfl (j_iload_n rfl rfl (j_iload_n rfl rfl (j_iconst (0 : Int32) rfl k32_0 (j_bipush (23 : Int32) rfl kb_23 (j_s1 [.int v3, .int (0 : Int32), .int (23 : Int32)] [.int v2, .int v1, .ref v0] rfl rfl rfl rfl rfl (t_Mo_within (by omega) hσ6) (g))))))))) ?_
  refine J_sq (fun (t9 : Int32) (σ10 : q_H) => q_G (q_rf fo) d m_Mo_one o σ' 32 [none, none, none, none] [.int t9, .int v2, .int v1, .ref v0] σ10) ?_ (fun t9 σ10 => ?_)
  · refine J_ite (fun h8 => ?_) (fun h8 => ?_)
    · exact J_some (fun h => j_if_t rfl (cc_eq_t h8) (j_iload_n rfl rfl (j_weak (l := [none, none, none, none]) (And.intro (Or.inl rfl) (And.intro (Or.inl rfl) (And.intro (Or.inl rfl) (And.intro (Or.inl rfl) True.intro)))) (h))))
    exact J_some (fun h => j_if_f rfl (cc_eq_f h8) (j_iload_n rfl rfl (j_goto rfl (j_weak (l := [none, none, none, none]) (And.intro (Or.inl rfl) (And.intro (Or.inl rfl) (And.intro (Or.inl rfl) (And.intro (Or.inl rfl) True.intro)))) (h)))))
  refine J_bind fun w11 hw11 => ?_
  refine J_cl fun x13 σ12 hσ12 => ?_
  exact J_some (fun h => j_v1 [.ref v0, .int v1, .int v2, .int t9] [] rfl rfl rfl rfl rfl rfl hw11 (Or.inl rfl) (t_Mo_oneOf (by omega) hσ12) (j_goto rfl (j_iret rfl rfl h)))
theorem t_Mo_one {fo : Option Nat} {d : Nat} (hd : 5 ≤ d) {v0 : Nat} {v1 : Int32} {v2 : Int32} {v3 : Int32} {σ σ1 : q_H} {r : Int32} (h : f_Mo_one v0 v1 v2 v3 σ = some (r, σ1)) : q_Rel (q_rf fo) q_Ms d 219 [.ref v0, .int v1, .int v2, .int v3] σ (.inl (some (.int r))) σ1 := by
  obtain ⟨d, rfl⟩ : ∃ d1, d = d1 + 1 := ⟨d - 1, by omega⟩
  exact q_Rel.of rfl rfl (b_Mo_one hd _ _ _ _ σ _ _ h ⟨rfl, rfl⟩)

set_option maxRecDepth 100000 in
theorem l_Mo_houses_L2 {fo : Option Nat} {d : Nat} (hd : 5 ≤ d + 1) {o : q_O} {σ' : q_H} {E : (Unit) → q_H → Prop} (v0 : Nat) (hX : ∀ (t : Unit) σ1, E (t) σ1 → q_G (q_rf fo) d m_Mo_houses o σ' 21 [some (.ref v0), none, none, none, none, none, none] [] σ1)  : ∀ (n : Nat) (v1 : Int32) (σ : q_H), q_J E (f_Mo_houses_L2 v0 n v1 σ) (q_G (q_rf fo) d m_Mo_houses o σ' 2 [some (.ref v0), some (.int v1), none, none, none, none, none] [] σ)
  | 0, v1, σ => J_none
  | n + 1, v1, σ => by
    unfold f_Mo_houses_L2
    refine q_J.step (fun g => j_iload_n rfl rfl (j_bipush (24 : Int32) rfl kb_24 (g))) ?_
    refine J_ite (fun h1 => ?_) (fun h1 => ?_)
    · refine J_bind fun x2 hx2 => ?_
      refine J_bind fun σ3 hσ3 => ?_
      exact q_J.step (fun g => j_icmp_f rfl (cc_ge_f h1) (j_aload_n rfl rfl (j_gfr rfl hx2 (j_iload_n rfl rfl (j_iload_n rfl rfl (j_ias rfl hσ3 (j_iinc [some (.ref v0), some (.int (v1 + (1 : Int32))), none, none, none, none, none] (v1 + (1 : Int32)) rfl rfl (by rw [k32_1]) (Or.inr rfl) rfl (j_goto rfl (g))))))))) (l_Mo_houses_L2 hd v0 hX n (v1 + (1 : Int32)) σ3)
    exact J_some (fun h => j_icmp_t rfl (cc_ge_t h1) (j_weak (l := [some (.ref v0), none, none, none, none, none, none]) (And.intro (Or.inr rfl) (And.intro (Or.inl rfl) (And.intro (Or.inr rfl) (And.intro (Or.inr rfl) (And.intro (Or.inr rfl) (And.intro (Or.inr rfl) (And.intro (Or.inr rfl) True.intro))))))) (hX _ _ h)))

set_option maxRecDepth 100000 in
theorem l_Mo_houses_L52 {fo : Option Nat} {d : Nat} (hd : 5 ≤ d + 1) {o : q_O} {σ' : q_H} {E : (Int32) → q_H → Prop} (v0 : Nat) (v1 : Int32) (v2 : Int32) (hX : ∀ (t : Int32) σ1, E (t) σ1 → q_G (q_rf fo) d m_Mo_houses o σ' 88 [some (.ref v0), some (.int v1), some (.int v2), some (.int t), none, none, none] [] σ1)  : ∀ (n : Nat) (v3 : Int32) (v4 : Int32) (σ : q_H), q_J E (f_Mo_houses_L52 v0 v1 v2 n v3 v4 σ) (q_G (q_rf fo) d m_Mo_houses o σ' 52 [some (.ref v0), some (.int v1), some (.int v2), some (.int v3), some (.int v4), none, none] [] σ)
  | 0, v3, v4, σ => J_none
  | n + 1, v3, v4, σ => by
    unfold f_Mo_houses_L52
    refine J_bind fun x1 hx1 => ?_
    refine J_bind fun x2 hx2 => ?_
    refine q_J.step (fun g => j_iload rfl rfl (j_aload_n rfl rfl (j_gfr rfl hx1 (j_iload_n rfl rfl (j_ial rfl hx2 (g)))))) ?_
    refine J_ite (fun h3 => ?_) (fun h3 => ?_)
    · refine J_bind fun w4 hw4 => ?_
      refine J_cl fun x6 σ5 hσ5 => ?_
      refine q_J.step (fun g => j_icmp_f rfl (cc_ge_f h3) (j_iload_n rfl rfl (j_aload_n rfl rfl (j_iload_n rfl rfl (j_iload rfl rfl (j_iload_n rfl rfl (j_v1 [.ref v0, .int v1, .int v4, .int v2] [.int v3] rfl rfl rfl rfl rfl rfl hw4 (Or.inl rfl) (t_Mo_oneOf (by omega) hσ5) (g)))))))) ?_
      refine J_ite (fun h7 => ?_) (fun h7 => ?_)
      · exact q_J.step (fun g => j_if_t rfl (cc_lt_t h7) (j_iconst (0 : Int32) rfl k32_0 (j_iadd rfl (j_istore_n [some (.ref v0), some (.int v1), some (.int v2), some (.int (v3 + (0 : Int32))), some (.int v4), none, none] rfl rfl (Or.inr rfl) rfl (j_iinc [some (.ref v0), some (.int v1), some (.int v2), some (.int (v3 + (0 : Int32))), some (.int (v4 + (1 : Int32))), none, none] (v4 + (1 : Int32)) rfl rfl (by rw [k32_1]) (Or.inr rfl) rfl (j_goto rfl (g))))))) (l_Mo_houses_L52 hd v0 v1 v2 hX n (v3 + (0 : Int32)) (v4 + (1 : Int32)) σ5)
      exact q_J.step (fun g => j_if_f rfl (cc_lt_f h7) (j_iconst (1 : Int32) rfl k32_1 (j_goto rfl (j_iadd rfl (j_istore_n [some (.ref v0), some (.int v1), some (.int v2), some (.int (v3 + (1 : Int32))), some (.int v4), none, none] rfl rfl (Or.inr rfl) rfl (j_iinc [some (.ref v0), some (.int v1), some (.int v2), some (.int (v3 + (1 : Int32))), some (.int (v4 + (1 : Int32))), none, none] (v4 + (1 : Int32)) rfl rfl (by rw [k32_1]) (Or.inr rfl) rfl (j_goto rfl (g)))))))) (l_Mo_houses_L52 hd v0 v1 v2 hX n (v3 + (1 : Int32)) (v4 + (1 : Int32)) σ5)
    exact J_some (fun h => j_icmp_t rfl (cc_ge_t h3) (j_weak (l := [some (.ref v0), some (.int v1), some (.int v2), some (.int v3), none, none, none]) (And.intro (Or.inr rfl) (And.intro (Or.inr rfl) (And.intro (Or.inr rfl) (And.intro (Or.inr rfl) (And.intro (Or.inl rfl) (And.intro (Or.inr rfl) (And.intro (Or.inr rfl) True.intro))))))) (hX _ _ h)))

set_option maxRecDepth 100000 in
theorem l_Mo_houses_L148 {fo : Option Nat} {d : Nat} (hd : 5 ≤ d + 1) {o : q_O} {σ' : q_H} {E : (Unit) → q_H → Prop} (v0 : Nat) (v1 : Int32) (v2 : Int32) (v4 : Int32) (v5 : Int32) (hX : ∀ (t : Unit) σ1, E (t) σ1 → q_G (q_rf fo) d m_Mo_houses o σ' 192 [some (.ref v0), some (.int v1), some (.int v2), none, none, none, none] [] σ1)  : ∀ (n : Nat) (v6 : Int32) (σ : q_H), q_J E (f_Mo_houses_L148 v0 v1 v2 v4 v5 n v6 σ) (q_G (q_rf fo) d m_Mo_houses o σ' 148 [some (.ref v0), some (.int v1), some (.int v2), none, some (.int v4), some (.int v5), some (.int v6)] [] σ)
  | 0, v6, σ => J_none
  | n + 1, v6, σ => by
    unfold f_Mo_houses_L148
    refine q_J.step (fun g => j_iload rfl rfl (j_bipush (24 : Int32) rfl kb_24 (g))) ?_
    refine J_ite (fun h1 => ?_) (fun h1 => ?_)
    · refine J_bind fun x2 hx2 => ?_
      refine J_bind fun x3 hx3 => ?_
      refine J_bind fun x4 hx4 => ?_
      refine q_J.step (fun g => j_icmp_f rfl (cc_ge_f h1) (j_aload_n rfl rfl (j_gfr rfl hx2 (j_iload rfl rfl (j_aload_n rfl rfl (j_gfr rfl hx3 (j_iload rfl rfl (j_ial rfl hx4 (j_iload rfl rfl (g)))))))))) ?_
      refine J_ite (fun h5 => ?_) (fun h5 => ?_)
      · refine J_bind fun σ6 hσ6 => ?_
        exact q_J.step (fun g => j_icmp_f rfl (cc_ne_f h5) (j_iload rfl rfl (j_goto rfl (j_ias rfl hσ6 (j_iinc [some (.ref v0), some (.int v1), some (.int v2), none, some (.int v4), some (.int v5), some (.int (v6 + (1 : Int32)))] (v6 + (1 : Int32)) rfl rfl (by rw [k32_1]) (Or.inr rfl) rfl (j_goto rfl (g))))))) (l_Mo_houses_L148 hd v0 v1 v2 v4 v5 hX n (v6 + (1 : Int32)) σ6)
      refine J_bind fun x7 hx7 => ?_
      refine J_bind fun x8 hx8 => ?_
      refine J_bind fun σ9 hσ9 => ?_
      exact q_J.step (fun g => j_icmp_t rfl (cc_ne_t h5) (j_aload_n rfl rfl (j_gfr rfl hx7 (j_iload rfl rfl (j_ial rfl hx8 (j_ias rfl hσ9 (j_iinc [some (.ref v0), some (.int v1), some (.int v2), none, some (.int v4), some (.int v5), some (.int (v6 + (1 : Int32)))] (v6 + (1 : Int32)) rfl rfl (by rw [k32_1]) (Or.inr rfl) rfl (j_goto rfl (g))))))))) (l_Mo_houses_L148 hd v0 v1 v2 v4 v5 hX n (v6 + (1 : Int32)) σ9)
    exact J_some (fun h => j_icmp_t rfl (cc_ge_t h1) (j_weak (l := [some (.ref v0), some (.int v1), some (.int v2), none, none, none, none]) (And.intro (Or.inr rfl) (And.intro (Or.inr rfl) (And.intro (Or.inr rfl) (And.intro (Or.inr rfl) (And.intro (Or.inl rfl) (And.intro (Or.inl rfl) (And.intro (Or.inl rfl) True.intro))))))) (hX _ _ h)))

set_option maxRecDepth 100000 in
theorem l_Mo_houses_L33 {fo : Option Nat} {d : Nat} (hd : 5 ≤ d + 1) {o : q_O} {σ' : q_H} {E : (Unit) → q_H → Prop} (v0 : Nat) (v1 : Int32) (hX : ∀ (t : Unit) σ1, E (t) σ1 → q_G (q_rf fo) d m_Mo_houses o σ' 198 [some (.ref v0), some (.int v1), none, none, none, none, none] [] σ1)  : ∀ (n : Nat) (v2 : Int32) (σ : q_H), q_J E (f_Mo_houses_L33 v0 v1 n v2 σ) (q_G (q_rf fo) d m_Mo_houses o σ' 33 [some (.ref v0), some (.int v1), some (.int v2), none, none, none, none] [] σ)
  | 0, v2, σ => J_none
  | n + 1, v2, σ => by
    unfold f_Mo_houses_L33
    refine q_J.step (fun g => j_iload_n rfl rfl (j_bipush (24 : Int32) rfl kb_24 (g))) ?_
    refine J_ite (fun h1 => ?_) (fun h1 => ?_)
    · refine J_bind fun w2 hw2 => ?_
      refine J_cl fun x4 σ3 hσ3 => ?_
      refine q_J.step (fun g => j_icmp_f rfl (cc_ge_f h1) (j_aload_n rfl rfl (j_iload_n rfl rfl (j_v1 [.ref v0, .int v1] [] rfl rfl rfl rfl rfl rfl hw2 (Or.inl rfl) (t_Mo_isThere (by omega) hσ3) (g))))) ?_
      refine J_ite (fun h5 => ?_) (fun h5 => ?_)
      · exact J_some (fun h => j_if_t rfl (cc_eq_t h5) (j_weak (l := [some (.ref v0), some (.int v1), none, none, none, none, none]) (And.intro (Or.inr rfl) (And.intro (Or.inr rfl) (And.intro (Or.inl rfl) (And.intro (Or.inr rfl) (And.intro (Or.inr rfl) (And.intro (Or.inr rfl) (And.intro (Or.inr rfl) True.intro))))))) (hX _ _ h)))
      refine J_sq (fun (t6 : Int32) (σ7 : q_H) => q_G (q_rf fo) d m_Mo_houses o σ' 88 [some (.ref v0), some (.int v1), some (.int v2), some (.int t6), none, none, none] [] σ7) (q_J.step (fun g => j_if_f rfl (cc_eq_f h5) (j_iconst (0 : Int32) rfl k32_0 (j_istore_n [some (.ref v0), some (.int v1), some (.int v2), some (.int (0 : Int32)), none, none, none] rfl rfl (Or.inr rfl) rfl (j_iconst (0 : Int32) rfl k32_0 (j_istore [some (.ref v0), some (.int v1), some (.int v2), some (.int (0 : Int32)), some (.int (0 : Int32)), none, none] rfl rfl (Or.inr rfl) rfl (g)))))) (l_Mo_houses_L52 hd v0 v1 v2 (fun _ _ h => h) q_FU (0 : Int32) (0 : Int32) σ3)) (fun t6 σ7 => ?_)
      refine q_J.step (fun g => j_iload_n rfl rfl (j_iconst (2 : Int32) rfl k32_2 (g))) ?_
      refine J_ite (fun h8 => ?_) (fun h8 => ?_)
      · exact q_J.step (fun g => j_icmp_t rfl (cc_lt_t h8) (j_iinc [some (.ref v0), some (.int v1), some (.int (v2 + (1 : Int32))), some (.int t6), none, none, none] (v2 + (1 : Int32)) rfl rfl (by rw [k32_1]) (Or.inr rfl) rfl (j_goto rfl (j_weak (l := [some (.ref v0), some (.int v1), some (.int (v2 + (1 : Int32))), none, none, none, none]) (And.intro (Or.inr rfl) (And.intro (Or.inr rfl) (And.intro (Or.inr rfl) (And.intro (Or.inl rfl) (And.intro (Or.inr rfl) (And.intro (Or.inr rfl) (And.intro (Or.inr rfl) True.intro))))))) (g))))) (l_Mo_houses_L33 hd v0 v1 hX n (v2 + (1 : Int32)) σ7)
      refine J_bind fun x9 hx9 => ?_
      refine J_bind fun x10 hx10 => ?_
      refine J_bind fun x11 hx11 => ?_
      refine J_bind fun x12 hx12 => ?_
      refine q_J.step (fun g => j_icmp_f rfl (cc_lt_f h8) (j_aload_n rfl rfl (j_gfr rfl hx9 (j_iload_n rfl rfl (j_ial rfl hx10 (j_aload_n rfl rfl (j_gfr rfl hx11 (j_iload_n rfl rfl (j_ial rfl hx12 (g)))))))))) ?_
      refine J_ite (fun h13 => ?_) (fun h13 => ?_)
      · exact q_J.step (fun g => j_icmp_f rfl (cc_ne_f h13) (j_goto rfl (j_iinc [some (.ref v0), some (.int v1), some (.int (v2 + (1 : Int32))), some (.int t6), none, none, none] (v2 + (1 : Int32)) rfl rfl (by rw [k32_1]) (Or.inr rfl) rfl (j_goto rfl (j_weak (l := [some (.ref v0), some (.int v1), some (.int (v2 + (1 : Int32))), none, none, none, none]) (And.intro (Or.inr rfl) (And.intro (Or.inr rfl) (And.intro (Or.inr rfl) (And.intro (Or.inl rfl) (And.intro (Or.inr rfl) (And.intro (Or.inr rfl) (And.intro (Or.inr rfl) True.intro))))))) (g)))))) (l_Mo_houses_L33 hd v0 v1 hX n (v2 + (1 : Int32)) σ7)
      refine J_bind fun x14 hx14 => ?_
      refine J_bind fun x15 hx15 => ?_
      refine J_bind fun x16 hx16 => ?_
      refine J_bind fun x17 hx17 => ?_
      refine J_bind fun x18 hx18 => ?_
      refine J_bind fun x19 hx19 => ?_
      refine J_bind fun x20 hx20 => ?_
      refine J_bind fun x21 hx21 => ?_
      refine J_sq (fun (t22 : Unit) (σ23 : q_H) => q_G (q_rf fo) d m_Mo_houses o σ' 192 [some (.ref v0), some (.int v1), some (.int v2), none, none, none, none] [] σ23) (q_J.step (fun g => j_icmp_t rfl (cc_ne_t h13) (j_aload_n rfl rfl (j_gfr rfl hx14 (j_iload_n rfl rfl (j_ial rfl hx15 (j_aload_n rfl rfl (j_gfr rfl hx16 (j_iload_n rfl rfl (j_ial rfl hx17 (j_max rfl rfl (j_istore [some (.ref v0), some (.int v1), some (.int v2), some (.int t6), some (.int (if x15 < x17 then x17 else x15)), none, none] rfl rfl (Or.inr rfl) rfl (j_aload_n rfl rfl (j_gfr rfl hx18 (j_iload_n rfl rfl (j_ial rfl hx19 (j_aload_n rfl rfl (j_gfr rfl hx20 (j_iload_n rfl rfl (j_ial rfl hx21 (j_min rfl rfl (j_istore [some (.ref v0), some (.int v1), some (.int v2), some (.int t6), some (.int (if x15 < x17 then x17 else x15)), some (.int (if x21 < x19 then x21 else x19)), none] rfl rfl (Or.inr rfl) rfl (j_iconst (0 : Int32) rfl k32_0 (j_istore [some (.ref v0), some (.int v1), some (.int v2), some (.int t6), some (.int (if x15 < x17 then x17 else x15)), some (.int (if x21 < x19 then x21 else x19)), some (.int (0 : Int32))] rfl rfl (Or.inr rfl) rfl (j_weak (l := [some (.ref v0), some (.int v1), some (.int v2), none, some (.int (if x15 < x17 then x17 else x15)), some (.int (if x21 < x19 then x21 else x19)), some (.int (0 : Int32))]) (And.intro (Or.inr rfl) (And.intro (Or.inr rfl) (And.intro (Or.inr rfl) (And.intro (Or.inl rfl) (And.intro (Or.inr rfl) (And.intro (Or.inr rfl) (And.intro (Or.inr rfl) True.intro))))))) (g))))))))))))))))))))))))) (l_Mo_houses_L148 hd v0 v1 v2 (if x15 < x17 then x17 else x15) (if x21 < x19 then x21 else x19) (fun _ _ h => h) q_FU (0 : Int32) σ7)) (fun t22 σ23 => ?_)
      exact q_J.step (fun g => j_iinc [some (.ref v0), some (.int v1), some (.int (v2 + (1 : Int32))), none, none, none, none] (v2 + (1 : Int32)) rfl rfl (by rw [k32_1]) (Or.inr rfl) rfl (j_goto rfl (g))) (l_Mo_houses_L33 hd v0 v1 hX n (v2 + (1 : Int32)) σ23)
    exact J_some (fun h => j_icmp_t rfl (cc_ge_t h1) (j_weak (l := [some (.ref v0), some (.int v1), none, none, none, none, none]) (And.intro (Or.inr rfl) (And.intro (Or.inr rfl) (And.intro (Or.inl rfl) (And.intro (Or.inr rfl) (And.intro (Or.inr rfl) (And.intro (Or.inr rfl) (And.intro (Or.inr rfl) True.intro))))))) (hX _ _ h)))

set_option maxRecDepth 100000 in
theorem l_Mo_houses_L23 {fo : Option Nat} {d : Nat} (hd : 5 ≤ d + 1) {o : q_O} {σ' : q_H} {E : (Unit) → q_H → Prop} (v0 : Nat) (hX : ∀ (t : Unit) σ1, E (t) σ1 → q_G (q_rf fo) d m_Mo_houses o σ' 204 [none, none, none, none, none, none, none] [] σ1)  : ∀ (n : Nat) (v1 : Int32) (σ : q_H), q_J E (f_Mo_houses_L23 v0 n v1 σ) (q_G (q_rf fo) d m_Mo_houses o σ' 23 [some (.ref v0), some (.int v1), none, none, none, none, none] [] σ)
  | 0, v1, σ => J_none
  | n + 1, v1, σ => by
    unfold f_Mo_houses_L23
    refine q_J.step (fun g => j_iload_n rfl rfl (j_bipush (24 : Int32) rfl kb_24 (g))) ?_
    refine J_ite (fun h1 => ?_) (fun h1 => ?_)
    · refine J_sq (fun (t2 : Unit) (σ3 : q_H) => q_G (q_rf fo) d m_Mo_houses o σ' 198 [some (.ref v0), some (.int v1), none, none, none, none, none] [] σ3) (q_J.step (fun g => j_icmp_f rfl (cc_ge_f h1) (j_iload_n rfl rfl (j_iconst (1 : Int32) rfl k32_1 (j_iadd rfl (j_istore_n [some (.ref v0), some (.int v1), some (.int (v1 + (1 : Int32))), none, none, none, none] rfl rfl (Or.inr rfl) rfl (g)))))) (l_Mo_houses_L33 hd v0 v1 (fun _ _ h => h) q_FU (v1 + (1 : Int32)) σ)) (fun t2 σ3 => ?_)
      exact q_J.step (fun g => j_iinc [some (.ref v0), some (.int (v1 + (1 : Int32))), none, none, none, none, none] (v1 + (1 : Int32)) rfl rfl (by rw [k32_1]) (Or.inr rfl) rfl (j_goto rfl (g))) (l_Mo_houses_L23 hd v0 hX n (v1 + (1 : Int32)) σ3)
    exact J_some (fun h => j_icmp_t rfl (cc_ge_t h1) (j_weak (l := [none, none, none, none, none, none, none]) (And.intro (Or.inl rfl) (And.intro (Or.inl rfl) (And.intro (Or.inr rfl) (And.intro (Or.inr rfl) (And.intro (Or.inr rfl) (And.intro (Or.inr rfl) (And.intro (Or.inr rfl) True.intro))))))) (hX _ _ h)))

set_option maxRecDepth 100000 in
theorem b_Mo_houses {fo : Option Nat} {d : Nat} (hd : 5 ≤ d + 1) {o : q_O} {σ' : q_H} (v0 : Nat) (σ : q_H) : q_J (fun (r : Unit) (σ1 : q_H) => o = .inl none ∧ σ' = σ1) (f_Mo_houses v0 σ) (q_G (q_rf fo) d m_Mo_houses o σ' 0 [some (.ref v0), none, none, none, none, none, none] [] σ) := by
  unfold f_Mo_houses
  refine J_sq (fun (t1 : Unit) (σ2 : q_H) => q_G (q_rf fo) d m_Mo_houses o σ' 21 [some (.ref v0), none, none, none, none, none, none] [] σ2) (q_J.step (fun g => j_iconst (0 : Int32) rfl k32_0 (j_istore_n [some (.ref v0), some (.int (0 : Int32)), none, none, none, none, none] rfl rfl (Or.inr rfl) rfl (g))) (l_Mo_houses_L2 hd v0 (fun _ _ h => h) q_FU (0 : Int32) σ)) (fun t1 σ2 => ?_)
  refine J_sq (fun (t3 : Unit) (σ4 : q_H) => q_G (q_rf fo) d m_Mo_houses o σ' 204 [none, none, none, none, none, none, none] [] σ4) (q_J.step (fun g => j_iconst (0 : Int32) rfl k32_0 (j_istore_n [some (.ref v0), some (.int (0 : Int32)), none, none, none, none, none] rfl rfl (Or.inr rfl) rfl (g))) (l_Mo_houses_L23 hd v0 (fun _ _ h => h) q_FU (0 : Int32) σ2)) (fun t3 σ4 => ?_)
  exact J_some (fun h => j_vret rfl rfl h)
theorem t_Mo_houses {fo : Option Nat} {d : Nat} (hd : 5 ≤ d) {v0 : Nat} {σ σ1 : q_H} {r : Unit} (h : f_Mo_houses v0 σ = some (r, σ1)) : q_Rel (q_rf fo) q_Ms d 225 [.ref v0] σ (.inl none) σ1 := by
  obtain ⟨d, rfl⟩ : ∃ d1, d = d1 + 1 := ⟨d - 1, by omega⟩
  exact q_Rel.of rfl rfl (b_Mo_houses hd _ σ _ _ h ⟨rfl, rfl⟩)

set_option maxRecDepth 100000 in
theorem l_Mo_knows_L22 {fo : Option Nat} {d : Nat} (hd : 5 ≤ d + 1) {o : q_O} {σ' : q_H} {E : (Unit) → q_H → Prop} (v0 : Nat) (v1 : Int32) (v2 : Int32) (hX : ∀ (t : Unit) σ1, E (t) σ1 → q_G (q_rf fo) d m_Mo_knows o σ' 87 [none, none, none, none, none] [] σ1)  : ∀ (n : Nat) (v3 : Int32) (σ : q_H), q_J E (f_Mo_knows_L22 v0 v1 v2 n v3 σ) (q_G (q_rf fo) d m_Mo_knows o σ' 22 [some (.ref v0), some (.int v1), some (.int v2), some (.int v3), none] [] σ)
  | 0, v3, σ => J_none
  | n + 1, v3, σ => by
    unfold f_Mo_knows_L22
    refine q_J.step (fun g => j_iload_n rfl rfl (j_bipush (24 : Int32) rfl kb_24 (g))) ?_
    refine J_ite (fun h1 => ?_) (fun h1 => ?_)
    · refine J_bind fun w2 hw2 => ?_
      refine J_cl fun x4 σ3 hσ3 => ?_
      refine q_J.step (fun g => j_icmp_f rfl (cc_ge_f h1) (j_aload_n rfl rfl (j_iload_n rfl rfl (j_iload_n rfl rfl (j_iload_n rfl rfl (j_v1 [.ref v0, .int v1, .int v2, .int v3] [] rfl rfl rfl rfl rfl rfl hw2 (Or.inl rfl) (t_Mo_oneOf (by omega) hσ3) (j_istore [some (.ref v0), some (.int v1), some (.int v2), some (.int v3), some (.int x4)] rfl rfl (Or.inr rfl) rfl (j_iload rfl rfl (g))))))))) ?_
      refine J_ite (fun h5 => ?_) (fun h5 => ?_)
      · exact q_J.step (fun g => j_if_f rfl (cc_ge_f h5) (j_goto rfl (j_iinc [some (.ref v0), some (.int v1), some (.int v2), some (.int (v3 + (1 : Int32))), some (.int x4)] (v3 + (1 : Int32)) rfl rfl (by rw [k32_1]) (Or.inr rfl) rfl (j_goto rfl (j_weak (l := [some (.ref v0), some (.int v1), some (.int v2), some (.int (v3 + (1 : Int32))), none]) (And.intro (Or.inr rfl) (And.intro (Or.inr rfl) (And.intro (Or.inr rfl) (And.intro (Or.inr rfl) (And.intro (Or.inl rfl) True.intro))))) (g)))))) (l_Mo_knows_L22 hd v0 v1 v2 hX n (v3 + (1 : Int32)) σ3)
      refine J_bind fun x6 hx6 => ?_
      refine J_bind fun w7 hw7 => ?_
      refine J_cl fun x9 σ8 hσ8 => ?_
      refine J_bind fun σ10 hσ10 => ?_
      refine J_bind fun x11 hx11 => ?_
      refine J_bind fun w12 hw12 => ?_
      refine J_cl fun x14 σ13 hσ13 => ?_
      refine J_bind fun σ15 hσ15 => ?_
      exact q_J.step (fun g => j_if_t rfl (cc_ge_t h5) (j_aload_n rfl rfl (j_aload_n rfl rfl (j_gfi rfl hx6 (j_aload_n rfl rfl (j_iload_n rfl rfl (j_iload rfl rfl (j_v1 [.ref v0, .int v3, .int x4] [.int x6, .ref v0] rfl rfl rfl rfl rfl rfl hw7 (Or.inl rfl) (t_Mo_firstBorn (by omega) hσ8) (j_max rfl rfl (j_putf rfl rfl rfl rfl hσ10 (j_aload_n rfl rfl (j_aload_n rfl rfl (j_gfi rfl hx11 (j_aload_n rfl rfl (j_iload_n rfl rfl (j_iload rfl rfl (j_v1 [.ref v0, .int v3, .int x4] [.int x11, .ref v0] rfl rfl rfl rfl rfl rfl hw12 (Or.inl rfl) (t_Mo_lastBorn (by omega) hσ13) (j_min rfl rfl (j_putf rfl rfl rfl rfl hσ15 (j_iinc [some (.ref v0), some (.int v1), some (.int v2), some (.int (v3 + (1 : Int32))), some (.int x4)] (v3 + (1 : Int32)) rfl rfl (by rw [k32_1]) (Or.inr rfl) rfl (j_goto rfl (j_weak (l := [some (.ref v0), some (.int v1), some (.int v2), some (.int (v3 + (1 : Int32))), none]) (And.intro (Or.inr rfl) (And.intro (Or.inr rfl) (And.intro (Or.inr rfl) (And.intro (Or.inr rfl) (And.intro (Or.inl rfl) True.intro))))) (g))))))))))))))))))))))) (l_Mo_knows_L22 hd v0 v1 v2 hX n (v3 + (1 : Int32)) σ15)
    exact J_some (fun h => j_icmp_t rfl (cc_ge_t h1) (j_weak (l := [none, none, none, none, none]) (And.intro (Or.inl rfl) (And.intro (Or.inl rfl) (And.intro (Or.inl rfl) (And.intro (Or.inl rfl) (And.intro (Or.inr rfl) True.intro))))) (hX _ _ h)))

set_option maxRecDepth 100000 in
theorem b_Mo_knows {fo : Option Nat} {d : Nat} (hd : 5 ≤ d + 1) {o : q_O} {σ' : q_H} (v0 : Nat) (v1 : Int32) (v2 : Int32) (σ : q_H) : q_J (fun (r : Unit) (σ1 : q_H) => o = .inl none ∧ σ' = σ1) (f_Mo_knows v0 v1 v2 σ) (q_G (q_rf fo) d m_Mo_knows o σ' 0 [some (.ref v0), some (.int v1), some (.int v2), none, none] [] σ) := by
  unfold f_Mo_knows
  refine J_bind fun w1 hw1 => ?_
  refine J_cl fun x3 σ2 hσ2 => ?_
  refine J_bind fun σ4 hσ4 => ?_
  refine J_bind fun w5 hw5 => ?_
  refine J_cl fun x7 σ6 hσ6 => ?_
  refine J_bind fun σ8 hσ8 => ?_
  refine J_sq (fun (t9 : Unit) (σ10 : q_H) => q_G (q_rf fo) d m_Mo_knows o σ' 87 [none, none, none, none, none] [] σ10) (q_J.step (fun g => j_aload_n rfl rfl (j_aload_n rfl rfl (j_iload_n rfl rfl (j_iload_n rfl rfl (j_v1 [.ref v0, .int v1, .int v2] [.ref v0] rfl rfl rfl rfl rfl rfl hw1 (Or.inl rfl) (t_Mo_firstBorn (by omega) hσ2) (j_putf rfl rfl rfl rfl hσ4 (j_aload_n rfl rfl (j_aload_n rfl rfl (j_iload_n rfl rfl (j_iload_n rfl rfl (j_v1 [.ref v0, .int v1, .int v2] [.ref v0] rfl rfl rfl rfl rfl rfl hw5 (Or.inl rfl) (t_Mo_lastBorn (by omega) hσ6) (j_putf rfl rfl rfl rfl hσ8 (j_iconst (0 : Int32) rfl k32_0 (j_istore_n [some (.ref v0), some (.int v1), some (.int v2), some (.int (0 : Int32)), none] rfl rfl (Or.inr rfl) rfl (g))))))))))))))) (l_Mo_knows_L22 hd v0 v1 v2 (fun _ _ h => h) q_FU (0 : Int32) σ8)) (fun t9 σ10 => ?_)
  exact J_some (fun h => j_vret rfl rfl h)
theorem t_Mo_knows {fo : Option Nat} {d : Nat} (hd : 5 ≤ d) {v0 : Nat} {v1 : Int32} {v2 : Int32} {σ σ1 : q_H} {r : Unit} (h : f_Mo_knows v0 v1 v2 σ = some (r, σ1)) : q_Rel (q_rf fo) q_Ms d 227 [.ref v0, .int v1, .int v2] σ (.inl none) σ1 := by
  obtain ⟨d, rfl⟩ : ∃ d1, d = d1 + 1 := ⟨d - 1, by omega⟩
  exact q_Rel.of rfl rfl (b_Mo_knows hd _ _ _ σ _ _ h ⟨rfl, rfl⟩)

set_option maxRecDepth 100000 in
theorem b_Mo_fit {fo : Option Nat} {d : Nat} (hd : 5 ≤ d + 1) {o : q_O} {σ' : q_H} (v0 : Nat) (v1 : Int32) (v2 : Int32) (σ : q_H) : q_J (fun (r : Int64) (σ1 : q_H) => o = .inl (some (.long r)) ∧ σ' = σ1) (f_Mo_fit v0 v1 v2 σ) (q_G (q_rf fo) d m_Mo_fit o σ' 0 [some (.ref v0), some (.int v1), some (.int v2)] [] σ) := by
  unfold f_Mo_fit
  refine J_bind fun σ1 hσ1 => ?_
  refine J_cl fun x3 σ2 hσ2 => ?_
  refine q_J.step (fun g => j_aload_n rfl rfl (j_iconst (0 : Int32) rfl k32_0 (j_putf rfl rfl rfl rfl hσ1 (j_iload_n rfl rfl (j_s1 [.int v1] [] rfl rfl rfl rfl rfl (t_Mo_isTable (by omega) hσ2) (g)))))) ?_
  refine J_ite (fun h4 => ?_) (fun h4 => ?_)
  · exact J_some (fun h => j_if_t rfl (cc_eq_t h4) (j_ldc2 (-1 : Int64) rfl kw_m1 (j_lret rfl rfl h)))
  refine J_cl fun x6 σ5 hσ5 => ?_
  refine q_J.step (fun g => j_if_f rfl (cc_eq_f h4) (j_iload_n rfl rfl (j_iconst (0 : Int32) rfl k32_0 (j_bipush (16 : Int32) rfl kb_16 (j_s1 [.int v2, .int (0 : Int32), .int (16 : Int32)] [] rfl rfl rfl rfl rfl (t_Mo_within (by omega) hσ5) (g)))))) ?_
  refine J_ite (fun h7 => ?_) (fun h7 => ?_)
  · exact J_some (fun h => j_if_t rfl (cc_eq_t h7) (j_ldc2 (-1 : Int64) rfl kw_m1 (j_lret rfl rfl h)))
  refine J_bind fun w8 hw8 => ?_
  refine J_cl fun x10 σ9 hσ9 => ?_
  exact J_some (fun h => j_if_f rfl (cc_eq_f h7) (j_aload_n rfl rfl (j_iload_n rfl rfl (j_iload_n rfl rfl (j_v1 [.ref v0, .int v1, .int v2] [] rfl rfl rfl rfl rfl rfl hw8 (Or.inl rfl) (t_Mo_fitOf (by omega) hσ9) (j_goto rfl (j_lret rfl rfl h)))))))
theorem t_Mo_fit {fo : Option Nat} {d : Nat} (hd : 5 ≤ d) {v0 : Nat} {v1 : Int32} {v2 : Int32} {σ σ1 : q_H} {r : Int64} (h : f_Mo_fit v0 v1 v2 σ = some (r, σ1)) : q_Rel (q_rf fo) q_Ms d 237 [.ref v0, .int v1, .int v2] σ (.inl (some (.long r))) σ1 := by
  obtain ⟨d, rfl⟩ : ∃ d1, d = d1 + 1 := ⟨d - 1, by omega⟩
  exact q_Rel.of rfl rfl (b_Mo_fit hd _ _ _ σ _ _ h ⟨rfl, rfl⟩)

