/-! Methods of the reference: walks. -/
set_option maxRecDepth 100000 in
theorem l_Mo_reads_L379 {fo : Option Nat} {d : Nat} (hd : 3 ≤ d + 1) {o : q_O} {σ' : q_H} {E : (Int32) → q_H → Prop} (v0 : Nat) (v2 : Int32) (hX : ∀ (t : Int32) σ1, E (t) σ1 → q_G (q_rf fo) d m_Mo_reads o σ' 424 [some (.ref v0), some (.int t), some (.int v2), none, none, none] [] σ1)  : ∀ (n : Nat) (v1 : Int32) (σ : q_H), q_J E (f_Mo_reads_L379 v0 v2 n v1 σ) (q_G (q_rf fo) d m_Mo_reads o σ' 379 [some (.ref v0), some (.int v1), some (.int v2), none, none, none] [] σ)
  | 0, v1, σ => J_none
  | n + 1, v1, σ => by
    unfold f_Mo_reads_L379
    refine q_J.step (fun g => j_iload_n rfl rfl (g)) ?_
    refine J_ite (fun h1 => ?_) (fun h1 => ?_)
    · refine J_bind fun x2 hx2 => ?_
      refine J_bind fun x3 hx3 => ?_
      refine q_J.step (fun g => j_if_f rfl (cc_le_f h1) (j_aload_n rfl rfl (j_gfr rfl hx2 (j_iload_n rfl rfl (j_ial rfl hx3 (j_iconst (1 : Int32) rfl k32_1 (g))))))) ?_
      refine J_ite (fun h4 => ?_) (fun h4 => ?_)
      · exact q_J.step (fun g => j_icmp_f rfl (cc_ne_f h4) (j_iinc [some (.ref v0), some (.int (v1 + (-1 : Int32))), some (.int v2), none, none, none] (v1 + (-1 : Int32)) rfl rfl (by rw [k32_m1]) (Or.inr rfl) rfl (j_goto rfl (g)))) (l_Mo_reads_L379 hd v0 v2 hX n (v1 + (-1 : Int32)) σ)
      exact J_some (fun h => j_icmp_t rfl (cc_ne_t h4) (hX _ _ h))
    exact J_some (fun h => j_if_t rfl (cc_le_t h1) (hX _ _ h))

set_option maxRecDepth 100000 in
theorem l_Mo_reads_L152 {fo : Option Nat} {d : Nat} (hd : 3 ≤ d + 1) {o : q_O} {σ' : q_H} {E : (Int32) → q_H → Prop} (v0 : Nat) (v2 : Int32) (hX : ∀ (t : Int32) σ1, E (t) σ1 → q_G (q_rf fo) d m_Mo_reads o σ' 172 [some (.ref v0), some (.int t), some (.int v2), none, none, none] [] σ1)  : ∀ (n : Nat) (v1 : Int32) (σ : q_H), q_J E (f_Mo_reads_L152 v0 v2 n v1 σ) (q_G (q_rf fo) d m_Mo_reads o σ' 152 [some (.ref v0), some (.int v1), some (.int v2), none, none, none] [] σ)
  | 0, v1, σ => J_none
  | n + 1, v1, σ => by
    unfold f_Mo_reads_L152
    refine q_J.step (fun g => j_iload_n rfl rfl (g)) ?_
    refine J_ite (fun h1 => ?_) (fun h1 => ?_)
    · refine J_bind fun x2 hx2 => ?_
      refine J_bind fun x3 hx3 => ?_
      refine q_J.step (fun g => j_if_f rfl (cc_le_f h1) (j_aload_n rfl rfl (j_gfr rfl hx2 (j_iload_n rfl rfl (j_ial rfl hx3 (j_iconst (1 : Int32) rfl k32_1 (g))))))) ?_
      refine J_ite (fun h4 => ?_) (fun h4 => ?_)
      · exact q_J.step (fun g => j_icmp_f rfl (cc_ne_f h4) (j_iinc [some (.ref v0), some (.int (v1 + (-1 : Int32))), some (.int v2), none, none, none] (v1 + (-1 : Int32)) rfl rfl (by rw [k32_m1]) (Or.inr rfl) rfl (j_goto rfl (g)))) (l_Mo_reads_L152 hd v0 v2 hX n (v1 + (-1 : Int32)) σ)
      exact J_some (fun h => j_icmp_t rfl (cc_ne_t h4) (hX _ _ h))
    exact J_some (fun h => j_if_t rfl (cc_le_t h1) (hX _ _ h))

set_option maxRecDepth 100000 in
theorem l_Mo_reads_L11 {fo : Option Nat} {d : Nat} (hd : 3 ≤ d + 1) {o : q_O} {σ' : q_H} {E : (Int32) → q_H → Prop} (v0 : Nat) (hR : ∀ r σ1, E (r) σ1 → o = .inl (some (.int r)) ∧ σ' = σ1)  : ∀ (n : Nat) (v1 : Int32) (v2 : Int32) (σ : q_H), q_J E (f_Mo_reads_L11 v0 n v1 v2 σ) (q_G (q_rf fo) d m_Mo_reads o σ' 11 [some (.ref v0), some (.int v1), some (.int v2), none, none, none] [] σ)
  | 0, v1, v2, σ => J_none
  | n + 1, v1, v2, σ => by
    unfold f_Mo_reads_L11
    refine q_J.step (fun g => j_iload_n rfl rfl (g)) ?_
    refine J_ite (fun h1 => ?_) (fun h1 => ?_)
    · refine J_bind fun w2 hw2 => ?_
      refine J_cl fun x4 σ3 hσ3 => ?_
      refine q_J.step (fun g => j_if_t rfl (cc_eq_t h1) (j_aload_n rfl rfl (j_bipush (43 : Int32) rfl kb_43 (j_v1 [.ref v0, .int (43 : Int32)] [] rfl rfl rfl rfl rfl rfl hw2 (Or.inl rfl) (t_Mo_isSign (by omega) hσ3) (g))))) ?_
      refine J_ite (fun h5 => ?_) (fun h5 => ?_)
      · refine J_bind fun w6 hw6 => ?_
        refine J_cl fun x8 σ7 hσ7 => ?_
        refine q_J.step (fun g => j_if_f rfl (cc_ne_f h5) (j_aload_n rfl rfl (j_bipush (45 : Int32) rfl kb_45 (j_v1 [.ref v0, .int (45 : Int32)] [] rfl rfl rfl rfl rfl rfl hw6 (Or.inl rfl) (t_Mo_isSign (by omega) hσ7) (g))))) ?_
        refine J_ite (fun h9 => ?_) (fun h9 => ?_)
        · refine J_bind fun w10 hw10 => ?_
          refine J_cl fun x12 σ11 hσ11 => ?_
          refine q_J.step (fun g => j_if_f rfl (cc_ne_f h9) (j_aload_n rfl rfl (j_bipush (42 : Int32) rfl kb_42 (j_v1 [.ref v0, .int (42 : Int32)] [] rfl rfl rfl rfl rfl rfl hw10 (Or.inl rfl) (t_Mo_isSign (by omega) hσ11) (g))))) ?_
          refine J_ite (fun h13 => ?_) (fun h13 => ?_)
          · refine J_bind fun w14 hw14 => ?_
            refine J_cl fun x16 σ15 hσ15 => ?_
            refine q_J.step (fun g => j_if_t rfl (cc_eq_t h13) (j_aload_n rfl rfl (j_bipush (60 : Int32) rfl kb_60 (j_v1 [.ref v0, .int (60 : Int32)] [] rfl rfl rfl rfl rfl rfl hw14 (Or.inl rfl) (t_Mo_isSign (by omega) hσ15) (g))))) ?_
            refine J_ite (fun h17 => ?_) (fun h17 => ?_)
            · refine J_bind fun w18 hw18 => ?_
              refine J_cl fun x20 σ19 hσ19 => ?_
              refine q_J.step (fun g => j_if_f rfl (cc_ne_f h17) (j_aload_n rfl rfl (j_bipush (61 : Int32) rfl kb_61 (j_v1 [.ref v0, .int (61 : Int32)] [] rfl rfl rfl rfl rfl rfl hw18 (Or.inl rfl) (t_Mo_isSign (by omega) hσ19) (g))))) ?_
              refine J_ite (fun h21 => ?_) (fun h21 => ?_)
              · refine J_bind fun w22 hw22 => ?_
                refine J_cl fun x24 σ23 hσ23 => ?_
                refine q_J.step (fun g => j_if_t rfl (cc_eq_t h21) (j_aload_n rfl rfl (j_ldc2 (1111 : Int64) rfl kw_1111 (j_v1 [.ref v0, .long (1111 : Int64)] [] rfl rfl rfl rfl rfl rfl hw22 (Or.inl rfl) (t_Mo_isWord (by omega) hσ23) (g))))) ?_
                refine J_ite (fun h25 => ?_) (fun h25 => ?_)
                · refine J_bind fun w26 hw26 => ?_
                  refine J_cl fun x28 σ27 hσ27 => ?_
                  refine q_J.step (fun g => j_if_f rfl (cc_ne_f h25) (j_aload_n rfl rfl (j_ldc2 (423 : Int64) rfl kw_423 (j_v1 [.ref v0, .long (423 : Int64)] [] rfl rfl rfl rfl rfl rfl hw26 (Or.inl rfl) (t_Mo_isWord (by omega) hσ27) (g))))) ?_
                  refine J_ite (fun h29 => ?_) (fun h29 => ?_)
                  · refine J_bind fun w30 hw30 => ?_
                    refine J_cl fun x32 σ31 hσ31 => ?_
                    refine q_J.step (fun g => j_if_t rfl (cc_eq_t h29) (j_aload_n rfl rfl (j_bipush (41 : Int32) rfl kb_41 (j_v1 [.ref v0, .int (41 : Int32)] [] rfl rfl rfl rfl rfl rfl hw30 (Or.inl rfl) (t_Mo_isSign (by omega) hσ31) (g))))) ?_
                    refine J_ite (fun h33 => ?_) (fun h33 => ?_)
                    · refine q_J.step (fun g => j_if_t rfl (cc_eq_t h33) (j_iload_n rfl rfl (g))) ?_
                      refine J_ite (fun h34 => ?_) (fun h34 => ?_)
                      · refine J_bind fun w35 hw35 => ?_
                        refine J_cl fun x37 σ36 hσ36 => ?_
                        refine q_J.step (fun g => j_if_f rfl (cc_ne_f h34) (j_aload_n rfl rfl (j_bipush (59 : Int32) rfl kb_59 (j_v1 [.ref v0, .int (59 : Int32)] [] rfl rfl rfl rfl rfl rfl hw35 (Or.inl rfl) (t_Mo_isSign (by omega) hσ36) (g))))) ?_
                        refine J_ite (fun h38 => ?_) (fun h38 => ?_)
                        · refine J_bind fun w39 hw39 => ?_
                          refine J_cl fun x41 σ40 hσ40 => ?_
                          refine q_J.step (fun g => j_if_t rfl (cc_eq_t h38) (j_aload_n rfl rfl (j_iconst (1 : Int32) rfl k32_1 (j_v1 [.ref v0, .int (1 : Int32)] [] rfl rfl rfl rfl rfl rfl hw39 (Or.inl rfl) (t_Mo_errs (by omega) hσ40) (g))))) ?_
                          refine J_ite (fun _ => J_none) (fun hz => ?_)
                          replace hz := Decidable.not_not.mp hz
                          exact J_some (fun h => j_iret rfl (q_zr hz) (hR _ _ h))
                        refine J_bind fun w42 hw42 => ?_
                        refine J_cl fun _ σ43 hσ43 => ?_
                        exact J_some (fun h => j_if_f rfl (cc_eq_f h38) (j_aload_n rfl rfl (j_v0 [.ref v0] [] rfl rfl rfl rfl rfl rfl hw42 (Or.inl rfl) (t_Mo_nextToken (by omega) hσ43) (j_iconst (1 : Int32) rfl k32_1 (j_iret rfl (q_zr (Or.inr rfl)) (hR _ _ h))))))
                      refine J_bind fun w45 hw45 => ?_
                      refine J_cl fun x47 σ46 hσ46 => ?_
                      refine q_J.step (fun g => j_if_t rfl (cc_ne_t h34) (j_aload_n rfl rfl (j_iconst (1 : Int32) rfl k32_1 (j_v1 [.ref v0, .int (1 : Int32)] [] rfl rfl rfl rfl rfl rfl hw45 (Or.inl rfl) (t_Mo_errs (by omega) hσ46) (g))))) ?_
                      refine J_ite (fun _ => J_none) (fun hz => ?_)
                      replace hz := Decidable.not_not.mp hz
                      exact J_some (fun h => j_iret rfl (q_zr hz) (hR _ _ h))
                    refine q_J.step (fun g => j_if_f rfl (cc_eq_f h33) (j_iload_n rfl rfl (g))) ?_
                    refine J_ite (fun h48 => ?_) (fun h48 => ?_)
                    · refine J_bind fun w49 hw49 => ?_
                      refine J_cl fun _ σ50 hσ50 => ?_
                      refine J_sq (fun (t52 : Int32) (σ53 : q_H) => q_G (q_rf fo) d m_Mo_reads o σ' 424 [some (.ref v0), some (.int t52), some (.int v2), none, none, none] [] σ53) (q_J.step (fun g => j_if_f rfl (cc_le_f h48) (j_aload_n rfl rfl (j_bipush (29 : Int32) rfl kb_29 (j_v0 [.ref v0, .int (29 : Int32)] [] rfl rfl rfl rfl rfl rfl hw49 (Or.inl rfl) (t_Mo_puts (by omega) hσ50) (j_iinc [some (.ref v0), some (.int (v1 + (-1 : Int32))), some (.int v2), none, none, none] (v1 + (-1 : Int32)) rfl rfl (by rw [k32_m1]) (Or.inr rfl) rfl (g)))))) (l_Mo_reads_L379 hd v0 v2 (fun _ _ h => h) q_FU (v1 + (-1 : Int32)) σ50)) (fun t52 σ53 => ?_)
                      refine J_bind fun w54 hw54 => ?_
                      refine J_cl fun _ σ55 hσ55 => ?_
                      exact q_J.step (fun g => j_aload_n rfl rfl (j_v0 [.ref v0] [] rfl rfl rfl rfl rfl rfl hw54 (Or.inl rfl) (t_Mo_nextToken (by omega) hσ55) (j_goto rfl (g)))) (l_Mo_reads_L11 hd v0 hR n t52 v2 σ55)
                    refine q_J.step (fun g => j_if_t rfl (cc_le_t h48) (j_iload_n rfl rfl (g))) ?_
                    refine J_ite (fun h57 => ?_) (fun h57 => ?_)
                    · refine J_bind fun w58 hw58 => ?_
                      refine J_cl fun x60 σ59 hσ59 => ?_
                      refine q_J.step (fun g => j_if_f rfl (cc_ne_f h57) (j_aload_n rfl rfl (j_bipush (59 : Int32) rfl kb_59 (j_v1 [.ref v0, .int (59 : Int32)] [] rfl rfl rfl rfl rfl rfl hw58 (Or.inl rfl) (t_Mo_isSign (by omega) hσ59) (g))))) ?_
                      refine J_ite (fun h61 => ?_) (fun h61 => ?_)
                      · refine J_bind fun w62 hw62 => ?_
                        refine J_cl fun x64 σ63 hσ63 => ?_
                        refine q_J.step (fun g => j_if_t rfl (cc_eq_t h61) (j_aload_n rfl rfl (j_iconst (1 : Int32) rfl k32_1 (j_v1 [.ref v0, .int (1 : Int32)] [] rfl rfl rfl rfl rfl rfl hw62 (Or.inl rfl) (t_Mo_errs (by omega) hσ63) (g))))) ?_
                        refine J_ite (fun _ => J_none) (fun hz => ?_)
                        replace hz := Decidable.not_not.mp hz
                        exact J_some (fun h => j_iret rfl (q_zr hz) (hR _ _ h))
                      refine J_bind fun w65 hw65 => ?_
                      refine J_cl fun _ σ66 hσ66 => ?_
                      exact J_some (fun h => j_if_f rfl (cc_eq_f h61) (j_aload_n rfl rfl (j_v0 [.ref v0] [] rfl rfl rfl rfl rfl rfl hw65 (Or.inl rfl) (t_Mo_nextToken (by omega) hσ66) (j_iconst (1 : Int32) rfl k32_1 (j_iret rfl (q_zr (Or.inr rfl)) (hR _ _ h))))))
                    refine J_bind fun w68 hw68 => ?_
                    refine J_cl fun x70 σ69 hσ69 => ?_
                    refine q_J.step (fun g => j_if_t rfl (cc_ne_t h57) (j_aload_n rfl rfl (j_iconst (1 : Int32) rfl k32_1 (j_v1 [.ref v0, .int (1 : Int32)] [] rfl rfl rfl rfl rfl rfl hw68 (Or.inl rfl) (t_Mo_errs (by omega) hσ69) (g))))) ?_
                    refine J_ite (fun _ => J_none) (fun hz => ?_)
                    replace hz := Decidable.not_not.mp hz
                    exact J_some (fun h => j_iret rfl (q_zr hz) (hR _ _ h))
                  refine J_bind fun w71 hw71 => ?_
                  refine J_cl fun x73 σ72 hσ72 => ?_
                  refine q_J.step (fun g => j_if_f rfl (cc_eq_f h29) (j_aload_n rfl rfl (j_aload_n rfl rfl (j_ldc2 (1111 : Int64) rfl kw_1111 (j_v1 [.ref v0, .long (1111 : Int64)] [.ref v0] rfl rfl rfl rfl rfl rfl hw71 (Or.inl rfl) (t_Mo_isWord (by omega) hσ72) (g)))))) ?_
                  refine J_sq (fun (t75 : Int32) (σ76 : q_H) => q_G (q_rf fo) d m_Mo_reads o σ' 342 [some (.ref v0), some (.int v1), none, none, none, none] [.int t75, .ref v0] σ76) ?_ (fun t75 σ76 => ?_)
                  · refine J_ite (fun h74 => ?_) (fun h74 => ?_)
                    · exact J_some (fun h => j_if_t rfl (cc_eq_t h74) (j_bipush (27 : Int32) rfl kb_27 (j_weak (l := [some (.ref v0), some (.int v1), none, none, none, none]) (And.intro (Or.inr rfl) (And.intro (Or.inr rfl) (And.intro (Or.inl rfl) (And.intro (Or.inr rfl) (And.intro (Or.inr rfl) (And.intro (Or.inr rfl) True.intro)))))) (h))))
                    exact J_some (fun h => j_if_f rfl (cc_eq_f h74) (j_bipush (26 : Int32) rfl kb_26 (j_goto rfl (j_weak (l := [some (.ref v0), some (.int v1), none, none, none, none]) (And.intro (Or.inr rfl) (And.intro (Or.inr rfl) (And.intro (Or.inl rfl) (And.intro (Or.inr rfl) (And.intro (Or.inr rfl) (And.intro (Or.inr rfl) True.intro)))))) (h)))))
                  refine J_bind fun w77 hw77 => ?_
                  refine J_cl fun _ σ78 hσ78 => ?_
                  refine J_bind fun x80 hx80 => ?_
                  refine J_bind fun σ81 hσ81 => ?_
                  refine J_bind fun w82 hw82 => ?_
                  refine J_cl fun _ σ83 hσ83 => ?_
                  exact q_J.step (fun g => j_v0 [.ref v0, .int t75] [] rfl rfl rfl rfl rfl rfl hw77 (Or.inl rfl) (t_Mo_puts (by omega) hσ78) (j_aload_n rfl rfl (j_gfr rfl hx80 (j_iload_n rfl rfl (j_iconst (0 : Int32) rfl k32_0 (j_bas rfl (by decide) hσ81 (j_iconst (1 : Int32) rfl k32_1 (j_istore_n [some (.ref v0), some (.int v1), some (.int (1 : Int32)), none, none, none] rfl rfl (Or.inr rfl) rfl (j_goto rfl (j_aload_n rfl rfl (j_v0 [.ref v0] [] rfl rfl rfl rfl rfl rfl hw82 (Or.inl rfl) (t_Mo_nextToken (by omega) hσ83) (j_goto rfl (g))))))))))))) (l_Mo_reads_L11 hd v0 hR n v1 (1 : Int32) σ83)
                refine J_bind fun w85 hw85 => ?_
                refine J_cl fun x87 σ86 hσ86 => ?_
                refine q_J.step (fun g => j_if_t rfl (cc_ne_t h25) (j_aload_n rfl rfl (j_aload_n rfl rfl (j_ldc2 (1111 : Int64) rfl kw_1111 (j_v1 [.ref v0, .long (1111 : Int64)] [.ref v0] rfl rfl rfl rfl rfl rfl hw85 (Or.inl rfl) (t_Mo_isWord (by omega) hσ86) (g)))))) ?_
                refine J_sq (fun (t89 : Int32) (σ90 : q_H) => q_G (q_rf fo) d m_Mo_reads o σ' 342 [some (.ref v0), some (.int v1), none, none, none, none] [.int t89, .ref v0] σ90) ?_ (fun t89 σ90 => ?_)
                · refine J_ite (fun h88 => ?_) (fun h88 => ?_)
                  · exact J_some (fun h => j_if_t rfl (cc_eq_t h88) (j_bipush (27 : Int32) rfl kb_27 (j_weak (l := [some (.ref v0), some (.int v1), none, none, none, none]) (And.intro (Or.inr rfl) (And.intro (Or.inr rfl) (And.intro (Or.inl rfl) (And.intro (Or.inr rfl) (And.intro (Or.inr rfl) (And.intro (Or.inr rfl) True.intro)))))) (h))))
                  exact J_some (fun h => j_if_f rfl (cc_eq_f h88) (j_bipush (26 : Int32) rfl kb_26 (j_goto rfl (j_weak (l := [some (.ref v0), some (.int v1), none, none, none, none]) (And.intro (Or.inr rfl) (And.intro (Or.inr rfl) (And.intro (Or.inl rfl) (And.intro (Or.inr rfl) (And.intro (Or.inr rfl) (And.intro (Or.inr rfl) True.intro)))))) (h)))))
                refine J_bind fun w91 hw91 => ?_
                refine J_cl fun _ σ92 hσ92 => ?_
                refine J_bind fun x94 hx94 => ?_
                refine J_bind fun σ95 hσ95 => ?_
                refine J_bind fun w96 hw96 => ?_
                refine J_cl fun _ σ97 hσ97 => ?_
                exact q_J.step (fun g => j_v0 [.ref v0, .int t89] [] rfl rfl rfl rfl rfl rfl hw91 (Or.inl rfl) (t_Mo_puts (by omega) hσ92) (j_aload_n rfl rfl (j_gfr rfl hx94 (j_iload_n rfl rfl (j_iconst (0 : Int32) rfl k32_0 (j_bas rfl (by decide) hσ95 (j_iconst (1 : Int32) rfl k32_1 (j_istore_n [some (.ref v0), some (.int v1), some (.int (1 : Int32)), none, none, none] rfl rfl (Or.inr rfl) rfl (j_goto rfl (j_aload_n rfl rfl (j_v0 [.ref v0] [] rfl rfl rfl rfl rfl rfl hw96 (Or.inl rfl) (t_Mo_nextToken (by omega) hσ97) (j_goto rfl (g))))))))))))) (l_Mo_reads_L11 hd v0 hR n v1 (1 : Int32) σ97)
              refine J_bind fun x99 hx99 => ?_
              refine J_bind fun x100 hx100 => ?_
              refine q_J.step (fun g => j_if_f rfl (cc_eq_f h21) (j_aload_n rfl rfl (j_gfr rfl hx99 (j_iload_n rfl rfl (j_bal rfl rfl hx100 (g)))))) ?_
              refine J_ite (fun h101 => ?_) (fun h101 => ?_)
              · refine J_bind fun w102 hw102 => ?_
                refine J_cl fun x104 σ103 hσ103 => ?_
                refine q_J.step (fun g => j_if_f rfl (cc_ne_f h101) (j_aload_n rfl rfl (j_aload_n rfl rfl (j_bipush (60 : Int32) rfl kb_60 (j_v1 [.ref v0, .int (60 : Int32)] [.ref v0] rfl rfl rfl rfl rfl rfl hw102 (Or.inl rfl) (t_Mo_isSign (by omega) hσ103) (g)))))) ?_
                refine J_sq (fun (t106 : Int32) (σ107 : q_H) => q_G (q_rf fo) d m_Mo_reads o σ' 289 [some (.ref v0), some (.int v1), none, none, none, none] [.int t106, .ref v0] σ107) ?_ (fun t106 σ107 => ?_)
                · refine J_ite (fun h105 => ?_) (fun h105 => ?_)
                  · exact J_some (fun h => j_if_t rfl (cc_eq_t h105) (j_bipush (25 : Int32) rfl kb_25 (j_weak (l := [some (.ref v0), some (.int v1), none, none, none, none]) (And.intro (Or.inr rfl) (And.intro (Or.inr rfl) (And.intro (Or.inl rfl) (And.intro (Or.inr rfl) (And.intro (Or.inr rfl) (And.intro (Or.inr rfl) True.intro)))))) (h))))
                  exact J_some (fun h => j_if_f rfl (cc_eq_f h105) (j_bipush (24 : Int32) rfl kb_24 (j_goto rfl (j_weak (l := [some (.ref v0), some (.int v1), none, none, none, none]) (And.intro (Or.inr rfl) (And.intro (Or.inr rfl) (And.intro (Or.inl rfl) (And.intro (Or.inr rfl) (And.intro (Or.inr rfl) (And.intro (Or.inr rfl) True.intro)))))) (h)))))
                refine J_bind fun w108 hw108 => ?_
                refine J_cl fun _ σ109 hσ109 => ?_
                refine J_bind fun x111 hx111 => ?_
                refine J_bind fun σ112 hσ112 => ?_
                refine J_bind fun w113 hw113 => ?_
                refine J_cl fun _ σ114 hσ114 => ?_
                exact q_J.step (fun g => j_v0 [.ref v0, .int t106] [] rfl rfl rfl rfl rfl rfl hw108 (Or.inl rfl) (t_Mo_puts (by omega) hσ109) (j_aload_n rfl rfl (j_gfr rfl hx111 (j_iload_n rfl rfl (j_iconst (1 : Int32) rfl k32_1 (j_bas rfl (by decide) hσ112 (j_iconst (1 : Int32) rfl k32_1 (j_istore_n [some (.ref v0), some (.int v1), some (.int (1 : Int32)), none, none, none] rfl rfl (Or.inr rfl) rfl (j_goto rfl (j_aload_n rfl rfl (j_v0 [.ref v0] [] rfl rfl rfl rfl rfl rfl hw113 (Or.inl rfl) (t_Mo_nextToken (by omega) hσ114) (j_goto rfl (g))))))))))))) (l_Mo_reads_L11 hd v0 hR n v1 (1 : Int32) σ114)
              refine J_bind fun w116 hw116 => ?_
              refine J_cl fun x118 σ117 hσ117 => ?_
              refine q_J.step (fun g => j_if_t rfl (cc_ne_t h101) (j_aload_n rfl rfl (j_ldc2 (1111 : Int64) rfl kw_1111 (j_v1 [.ref v0, .long (1111 : Int64)] [] rfl rfl rfl rfl rfl rfl hw116 (Or.inl rfl) (t_Mo_isWord (by omega) hσ117) (g))))) ?_
              refine J_ite (fun h119 => ?_) (fun h119 => ?_)
              · refine J_bind fun w120 hw120 => ?_
                refine J_cl fun x122 σ121 hσ121 => ?_
                refine q_J.step (fun g => j_if_f rfl (cc_ne_f h119) (j_aload_n rfl rfl (j_ldc2 (423 : Int64) rfl kw_423 (j_v1 [.ref v0, .long (423 : Int64)] [] rfl rfl rfl rfl rfl rfl hw120 (Or.inl rfl) (t_Mo_isWord (by omega) hσ121) (g))))) ?_
                refine J_ite (fun h123 => ?_) (fun h123 => ?_)
                · refine J_bind fun w124 hw124 => ?_
                  refine J_cl fun x126 σ125 hσ125 => ?_
                  refine q_J.step (fun g => j_if_t rfl (cc_eq_t h123) (j_aload_n rfl rfl (j_bipush (41 : Int32) rfl kb_41 (j_v1 [.ref v0, .int (41 : Int32)] [] rfl rfl rfl rfl rfl rfl hw124 (Or.inl rfl) (t_Mo_isSign (by omega) hσ125) (g))))) ?_
                  refine J_ite (fun h127 => ?_) (fun h127 => ?_)
                  · refine q_J.step (fun g => j_if_t rfl (cc_eq_t h127) (j_iload_n rfl rfl (g))) ?_
                    refine J_ite (fun h128 => ?_) (fun h128 => ?_)
                    · refine J_bind fun w129 hw129 => ?_
                      refine J_cl fun x131 σ130 hσ130 => ?_
                      refine q_J.step (fun g => j_if_f rfl (cc_ne_f h128) (j_aload_n rfl rfl (j_bipush (59 : Int32) rfl kb_59 (j_v1 [.ref v0, .int (59 : Int32)] [] rfl rfl rfl rfl rfl rfl hw129 (Or.inl rfl) (t_Mo_isSign (by omega) hσ130) (g))))) ?_
                      refine J_ite (fun h132 => ?_) (fun h132 => ?_)
                      · refine J_bind fun w133 hw133 => ?_
                        refine J_cl fun x135 σ134 hσ134 => ?_
                        refine q_J.step (fun g => j_if_t rfl (cc_eq_t h132) (j_aload_n rfl rfl (j_iconst (1 : Int32) rfl k32_1 (j_v1 [.ref v0, .int (1 : Int32)] [] rfl rfl rfl rfl rfl rfl hw133 (Or.inl rfl) (t_Mo_errs (by omega) hσ134) (g))))) ?_
                        refine J_ite (fun _ => J_none) (fun hz => ?_)
                        replace hz := Decidable.not_not.mp hz
                        exact J_some (fun h => j_iret rfl (q_zr hz) (hR _ _ h))
                      refine J_bind fun w136 hw136 => ?_
                      refine J_cl fun _ σ137 hσ137 => ?_
                      exact J_some (fun h => j_if_f rfl (cc_eq_f h132) (j_aload_n rfl rfl (j_v0 [.ref v0] [] rfl rfl rfl rfl rfl rfl hw136 (Or.inl rfl) (t_Mo_nextToken (by omega) hσ137) (j_iconst (1 : Int32) rfl k32_1 (j_iret rfl (q_zr (Or.inr rfl)) (hR _ _ h))))))
                    refine J_bind fun w139 hw139 => ?_
                    refine J_cl fun x141 σ140 hσ140 => ?_
                    refine q_J.step (fun g => j_if_t rfl (cc_ne_t h128) (j_aload_n rfl rfl (j_iconst (1 : Int32) rfl k32_1 (j_v1 [.ref v0, .int (1 : Int32)] [] rfl rfl rfl rfl rfl rfl hw139 (Or.inl rfl) (t_Mo_errs (by omega) hσ140) (g))))) ?_
                    refine J_ite (fun _ => J_none) (fun hz => ?_)
                    replace hz := Decidable.not_not.mp hz
                    exact J_some (fun h => j_iret rfl (q_zr hz) (hR _ _ h))
                  refine q_J.step (fun g => j_if_f rfl (cc_eq_f h127) (j_iload_n rfl rfl (g))) ?_
                  refine J_ite (fun h142 => ?_) (fun h142 => ?_)
                  · refine J_bind fun w143 hw143 => ?_
                    refine J_cl fun _ σ144 hσ144 => ?_
                    refine J_sq (fun (t146 : Int32) (σ147 : q_H) => q_G (q_rf fo) d m_Mo_reads o σ' 424 [some (.ref v0), some (.int t146), some (.int v2), none, none, none] [] σ147) (q_J.step (fun g => j_if_f rfl (cc_le_f h142) (j_aload_n rfl rfl (j_bipush (29 : Int32) rfl kb_29 (j_v0 [.ref v0, .int (29 : Int32)] [] rfl rfl rfl rfl rfl rfl hw143 (Or.inl rfl) (t_Mo_puts (by omega) hσ144) (j_iinc [some (.ref v0), some (.int (v1 + (-1 : Int32))), some (.int v2), none, none, none] (v1 + (-1 : Int32)) rfl rfl (by rw [k32_m1]) (Or.inr rfl) rfl (g)))))) (l_Mo_reads_L379 hd v0 v2 (fun _ _ h => h) q_FU (v1 + (-1 : Int32)) σ144)) (fun t146 σ147 => ?_)
                    refine J_bind fun w148 hw148 => ?_
                    refine J_cl fun _ σ149 hσ149 => ?_
                    exact q_J.step (fun g => j_aload_n rfl rfl (j_v0 [.ref v0] [] rfl rfl rfl rfl rfl rfl hw148 (Or.inl rfl) (t_Mo_nextToken (by omega) hσ149) (j_goto rfl (g)))) (l_Mo_reads_L11 hd v0 hR n t146 v2 σ149)
                  refine q_J.step (fun g => j_if_t rfl (cc_le_t h142) (j_iload_n rfl rfl (g))) ?_
                  refine J_ite (fun h151 => ?_) (fun h151 => ?_)
                  · refine J_bind fun w152 hw152 => ?_
                    refine J_cl fun x154 σ153 hσ153 => ?_
                    refine q_J.step (fun g => j_if_f rfl (cc_ne_f h151) (j_aload_n rfl rfl (j_bipush (59 : Int32) rfl kb_59 (j_v1 [.ref v0, .int (59 : Int32)] [] rfl rfl rfl rfl rfl rfl hw152 (Or.inl rfl) (t_Mo_isSign (by omega) hσ153) (g))))) ?_
                    refine J_ite (fun h155 => ?_) (fun h155 => ?_)
                    · refine J_bind fun w156 hw156 => ?_
                      refine J_cl fun x158 σ157 hσ157 => ?_
                      refine q_J.step (fun g => j_if_t rfl (cc_eq_t h155) (j_aload_n rfl rfl (j_iconst (1 : Int32) rfl k32_1 (j_v1 [.ref v0, .int (1 : Int32)] [] rfl rfl rfl rfl rfl rfl hw156 (Or.inl rfl) (t_Mo_errs (by omega) hσ157) (g))))) ?_
                      refine J_ite (fun _ => J_none) (fun hz => ?_)
                      replace hz := Decidable.not_not.mp hz
                      exact J_some (fun h => j_iret rfl (q_zr hz) (hR _ _ h))
                    refine J_bind fun w159 hw159 => ?_
                    refine J_cl fun _ σ160 hσ160 => ?_
                    exact J_some (fun h => j_if_f rfl (cc_eq_f h155) (j_aload_n rfl rfl (j_v0 [.ref v0] [] rfl rfl rfl rfl rfl rfl hw159 (Or.inl rfl) (t_Mo_nextToken (by omega) hσ160) (j_iconst (1 : Int32) rfl k32_1 (j_iret rfl (q_zr (Or.inr rfl)) (hR _ _ h))))))
                  refine J_bind fun w162 hw162 => ?_
                  refine J_cl fun x164 σ163 hσ163 => ?_
                  refine q_J.step (fun g => j_if_t rfl (cc_ne_t h151) (j_aload_n rfl rfl (j_iconst (1 : Int32) rfl k32_1 (j_v1 [.ref v0, .int (1 : Int32)] [] rfl rfl rfl rfl rfl rfl hw162 (Or.inl rfl) (t_Mo_errs (by omega) hσ163) (g))))) ?_
                  refine J_ite (fun _ => J_none) (fun hz => ?_)
                  replace hz := Decidable.not_not.mp hz
                  exact J_some (fun h => j_iret rfl (q_zr hz) (hR _ _ h))
                refine J_bind fun w165 hw165 => ?_
                refine J_cl fun x167 σ166 hσ166 => ?_
                refine q_J.step (fun g => j_if_f rfl (cc_eq_f h123) (j_aload_n rfl rfl (j_aload_n rfl rfl (j_ldc2 (1111 : Int64) rfl kw_1111 (j_v1 [.ref v0, .long (1111 : Int64)] [.ref v0] rfl rfl rfl rfl rfl rfl hw165 (Or.inl rfl) (t_Mo_isWord (by omega) hσ166) (g)))))) ?_
                refine J_sq (fun (t169 : Int32) (σ170 : q_H) => q_G (q_rf fo) d m_Mo_reads o σ' 342 [some (.ref v0), some (.int v1), none, none, none, none] [.int t169, .ref v0] σ170) ?_ (fun t169 σ170 => ?_)
                · refine J_ite (fun h168 => ?_) (fun h168 => ?_)
                  · exact J_some (fun h => j_if_t rfl (cc_eq_t h168) (j_bipush (27 : Int32) rfl kb_27 (j_weak (l := [some (.ref v0), some (.int v1), none, none, none, none]) (And.intro (Or.inr rfl) (And.intro (Or.inr rfl) (And.intro (Or.inl rfl) (And.intro (Or.inr rfl) (And.intro (Or.inr rfl) (And.intro (Or.inr rfl) True.intro)))))) (h))))
                  exact J_some (fun h => j_if_f rfl (cc_eq_f h168) (j_bipush (26 : Int32) rfl kb_26 (j_goto rfl (j_weak (l := [some (.ref v0), some (.int v1), none, none, none, none]) (And.intro (Or.inr rfl) (And.intro (Or.inr rfl) (And.intro (Or.inl rfl) (And.intro (Or.inr rfl) (And.intro (Or.inr rfl) (And.intro (Or.inr rfl) True.intro)))))) (h)))))
                refine J_bind fun w171 hw171 => ?_
                refine J_cl fun _ σ172 hσ172 => ?_
                refine J_bind fun x174 hx174 => ?_
                refine J_bind fun σ175 hσ175 => ?_
                refine J_bind fun w176 hw176 => ?_
                refine J_cl fun _ σ177 hσ177 => ?_
                exact q_J.step (fun g => j_v0 [.ref v0, .int t169] [] rfl rfl rfl rfl rfl rfl hw171 (Or.inl rfl) (t_Mo_puts (by omega) hσ172) (j_aload_n rfl rfl (j_gfr rfl hx174 (j_iload_n rfl rfl (j_iconst (0 : Int32) rfl k32_0 (j_bas rfl (by decide) hσ175 (j_iconst (1 : Int32) rfl k32_1 (j_istore_n [some (.ref v0), some (.int v1), some (.int (1 : Int32)), none, none, none] rfl rfl (Or.inr rfl) rfl (j_goto rfl (j_aload_n rfl rfl (j_v0 [.ref v0] [] rfl rfl rfl rfl rfl rfl hw176 (Or.inl rfl) (t_Mo_nextToken (by omega) hσ177) (j_goto rfl (g))))))))))))) (l_Mo_reads_L11 hd v0 hR n v1 (1 : Int32) σ177)
              refine J_bind fun w179 hw179 => ?_
              refine J_cl fun x181 σ180 hσ180 => ?_
              refine q_J.step (fun g => j_if_t rfl (cc_ne_t h119) (j_aload_n rfl rfl (j_aload_n rfl rfl (j_ldc2 (1111 : Int64) rfl kw_1111 (j_v1 [.ref v0, .long (1111 : Int64)] [.ref v0] rfl rfl rfl rfl rfl rfl hw179 (Or.inl rfl) (t_Mo_isWord (by omega) hσ180) (g)))))) ?_
              refine J_sq (fun (t183 : Int32) (σ184 : q_H) => q_G (q_rf fo) d m_Mo_reads o σ' 342 [some (.ref v0), some (.int v1), none, none, none, none] [.int t183, .ref v0] σ184) ?_ (fun t183 σ184 => ?_)
              · refine J_ite (fun h182 => ?_) (fun h182 => ?_)
                · exact J_some (fun h => j_if_t rfl (cc_eq_t h182) (j_bipush (27 : Int32) rfl kb_27 (j_weak (l := [some (.ref v0), some (.int v1), none, none, none, none]) (And.intro (Or.inr rfl) (And.intro (Or.inr rfl) (And.intro (Or.inl rfl) (And.intro (Or.inr rfl) (And.intro (Or.inr rfl) (And.intro (Or.inr rfl) True.intro)))))) (h))))
                exact J_some (fun h => j_if_f rfl (cc_eq_f h182) (j_bipush (26 : Int32) rfl kb_26 (j_goto rfl (j_weak (l := [some (.ref v0), some (.int v1), none, none, none, none]) (And.intro (Or.inr rfl) (And.intro (Or.inr rfl) (And.intro (Or.inl rfl) (And.intro (Or.inr rfl) (And.intro (Or.inr rfl) (And.intro (Or.inr rfl) True.intro)))))) (h)))))
              refine J_bind fun w185 hw185 => ?_
              refine J_cl fun _ σ186 hσ186 => ?_
              refine J_bind fun x188 hx188 => ?_
              refine J_bind fun σ189 hσ189 => ?_
              refine J_bind fun w190 hw190 => ?_
              refine J_cl fun _ σ191 hσ191 => ?_
              exact q_J.step (fun g => j_v0 [.ref v0, .int t183] [] rfl rfl rfl rfl rfl rfl hw185 (Or.inl rfl) (t_Mo_puts (by omega) hσ186) (j_aload_n rfl rfl (j_gfr rfl hx188 (j_iload_n rfl rfl (j_iconst (0 : Int32) rfl k32_0 (j_bas rfl (by decide) hσ189 (j_iconst (1 : Int32) rfl k32_1 (j_istore_n [some (.ref v0), some (.int v1), some (.int (1 : Int32)), none, none, none] rfl rfl (Or.inr rfl) rfl (j_goto rfl (j_aload_n rfl rfl (j_v0 [.ref v0] [] rfl rfl rfl rfl rfl rfl hw190 (Or.inl rfl) (t_Mo_nextToken (by omega) hσ191) (j_goto rfl (g))))))))))))) (l_Mo_reads_L11 hd v0 hR n v1 (1 : Int32) σ191)
            refine J_bind fun x193 hx193 => ?_
            refine J_bind fun x194 hx194 => ?_
            refine q_J.step (fun g => j_if_t rfl (cc_ne_t h17) (j_aload_n rfl rfl (j_gfr rfl hx193 (j_iload_n rfl rfl (j_bal rfl rfl hx194 (g)))))) ?_
            refine J_ite (fun h195 => ?_) (fun h195 => ?_)
            · refine J_bind fun w196 hw196 => ?_
              refine J_cl fun x198 σ197 hσ197 => ?_
              refine q_J.step (fun g => j_if_f rfl (cc_ne_f h195) (j_aload_n rfl rfl (j_aload_n rfl rfl (j_bipush (60 : Int32) rfl kb_60 (j_v1 [.ref v0, .int (60 : Int32)] [.ref v0] rfl rfl rfl rfl rfl rfl hw196 (Or.inl rfl) (t_Mo_isSign (by omega) hσ197) (g)))))) ?_
              refine J_sq (fun (t200 : Int32) (σ201 : q_H) => q_G (q_rf fo) d m_Mo_reads o σ' 289 [some (.ref v0), some (.int v1), none, none, none, none] [.int t200, .ref v0] σ201) ?_ (fun t200 σ201 => ?_)
              · refine J_ite (fun h199 => ?_) (fun h199 => ?_)
                · exact J_some (fun h => j_if_t rfl (cc_eq_t h199) (j_bipush (25 : Int32) rfl kb_25 (j_weak (l := [some (.ref v0), some (.int v1), none, none, none, none]) (And.intro (Or.inr rfl) (And.intro (Or.inr rfl) (And.intro (Or.inl rfl) (And.intro (Or.inr rfl) (And.intro (Or.inr rfl) (And.intro (Or.inr rfl) True.intro)))))) (h))))
                exact J_some (fun h => j_if_f rfl (cc_eq_f h199) (j_bipush (24 : Int32) rfl kb_24 (j_goto rfl (j_weak (l := [some (.ref v0), some (.int v1), none, none, none, none]) (And.intro (Or.inr rfl) (And.intro (Or.inr rfl) (And.intro (Or.inl rfl) (And.intro (Or.inr rfl) (And.intro (Or.inr rfl) (And.intro (Or.inr rfl) True.intro)))))) (h)))))
              refine J_bind fun w202 hw202 => ?_
              refine J_cl fun _ σ203 hσ203 => ?_
              refine J_bind fun x205 hx205 => ?_
              refine J_bind fun σ206 hσ206 => ?_
              refine J_bind fun w207 hw207 => ?_
              refine J_cl fun _ σ208 hσ208 => ?_
              exact q_J.step (fun g => j_v0 [.ref v0, .int t200] [] rfl rfl rfl rfl rfl rfl hw202 (Or.inl rfl) (t_Mo_puts (by omega) hσ203) (j_aload_n rfl rfl (j_gfr rfl hx205 (j_iload_n rfl rfl (j_iconst (1 : Int32) rfl k32_1 (j_bas rfl (by decide) hσ206 (j_iconst (1 : Int32) rfl k32_1 (j_istore_n [some (.ref v0), some (.int v1), some (.int (1 : Int32)), none, none, none] rfl rfl (Or.inr rfl) rfl (j_goto rfl (j_aload_n rfl rfl (j_v0 [.ref v0] [] rfl rfl rfl rfl rfl rfl hw207 (Or.inl rfl) (t_Mo_nextToken (by omega) hσ208) (j_goto rfl (g))))))))))))) (l_Mo_reads_L11 hd v0 hR n v1 (1 : Int32) σ208)
            refine J_bind fun w210 hw210 => ?_
            refine J_cl fun x212 σ211 hσ211 => ?_
            refine q_J.step (fun g => j_if_t rfl (cc_ne_t h195) (j_aload_n rfl rfl (j_ldc2 (1111 : Int64) rfl kw_1111 (j_v1 [.ref v0, .long (1111 : Int64)] [] rfl rfl rfl rfl rfl rfl hw210 (Or.inl rfl) (t_Mo_isWord (by omega) hσ211) (g))))) ?_
            refine J_ite (fun h213 => ?_) (fun h213 => ?_)
            · refine J_bind fun w214 hw214 => ?_
              refine J_cl fun x216 σ215 hσ215 => ?_
              refine q_J.step (fun g => j_if_f rfl (cc_ne_f h213) (j_aload_n rfl rfl (j_ldc2 (423 : Int64) rfl kw_423 (j_v1 [.ref v0, .long (423 : Int64)] [] rfl rfl rfl rfl rfl rfl hw214 (Or.inl rfl) (t_Mo_isWord (by omega) hσ215) (g))))) ?_
              refine J_ite (fun h217 => ?_) (fun h217 => ?_)
              · refine J_bind fun w218 hw218 => ?_
                refine J_cl fun x220 σ219 hσ219 => ?_
                refine q_J.step (fun g => j_if_t rfl (cc_eq_t h217) (j_aload_n rfl rfl (j_bipush (41 : Int32) rfl kb_41 (j_v1 [.ref v0, .int (41 : Int32)] [] rfl rfl rfl rfl rfl rfl hw218 (Or.inl rfl) (t_Mo_isSign (by omega) hσ219) (g))))) ?_
                refine J_ite (fun h221 => ?_) (fun h221 => ?_)
                · refine q_J.step (fun g => j_if_t rfl (cc_eq_t h221) (j_iload_n rfl rfl (g))) ?_
                  refine J_ite (fun h222 => ?_) (fun h222 => ?_)
                  · refine J_bind fun w223 hw223 => ?_
                    refine J_cl fun x225 σ224 hσ224 => ?_
                    refine q_J.step (fun g => j_if_f rfl (cc_ne_f h222) (j_aload_n rfl rfl (j_bipush (59 : Int32) rfl kb_59 (j_v1 [.ref v0, .int (59 : Int32)] [] rfl rfl rfl rfl rfl rfl hw223 (Or.inl rfl) (t_Mo_isSign (by omega) hσ224) (g))))) ?_
                    refine J_ite (fun h226 => ?_) (fun h226 => ?_)
                    · refine J_bind fun w227 hw227 => ?_
                      refine J_cl fun x229 σ228 hσ228 => ?_
                      refine q_J.step (fun g => j_if_t rfl (cc_eq_t h226) (j_aload_n rfl rfl (j_iconst (1 : Int32) rfl k32_1 (j_v1 [.ref v0, .int (1 : Int32)] [] rfl rfl rfl rfl rfl rfl hw227 (Or.inl rfl) (t_Mo_errs (by omega) hσ228) (g))))) ?_
                      refine J_ite (fun _ => J_none) (fun hz => ?_)
                      replace hz := Decidable.not_not.mp hz
                      exact J_some (fun h => j_iret rfl (q_zr hz) (hR _ _ h))
                    refine J_bind fun w230 hw230 => ?_
                    refine J_cl fun _ σ231 hσ231 => ?_
                    exact J_some (fun h => j_if_f rfl (cc_eq_f h226) (j_aload_n rfl rfl (j_v0 [.ref v0] [] rfl rfl rfl rfl rfl rfl hw230 (Or.inl rfl) (t_Mo_nextToken (by omega) hσ231) (j_iconst (1 : Int32) rfl k32_1 (j_iret rfl (q_zr (Or.inr rfl)) (hR _ _ h))))))
                  refine J_bind fun w233 hw233 => ?_
                  refine J_cl fun x235 σ234 hσ234 => ?_
                  refine q_J.step (fun g => j_if_t rfl (cc_ne_t h222) (j_aload_n rfl rfl (j_iconst (1 : Int32) rfl k32_1 (j_v1 [.ref v0, .int (1 : Int32)] [] rfl rfl rfl rfl rfl rfl hw233 (Or.inl rfl) (t_Mo_errs (by omega) hσ234) (g))))) ?_
                  refine J_ite (fun _ => J_none) (fun hz => ?_)
                  replace hz := Decidable.not_not.mp hz
                  exact J_some (fun h => j_iret rfl (q_zr hz) (hR _ _ h))
                refine q_J.step (fun g => j_if_f rfl (cc_eq_f h221) (j_iload_n rfl rfl (g))) ?_
                refine J_ite (fun h236 => ?_) (fun h236 => ?_)
                · refine J_bind fun w237 hw237 => ?_
                  refine J_cl fun _ σ238 hσ238 => ?_
                  refine J_sq (fun (t240 : Int32) (σ241 : q_H) => q_G (q_rf fo) d m_Mo_reads o σ' 424 [some (.ref v0), some (.int t240), some (.int v2), none, none, none] [] σ241) (q_J.step (fun g => j_if_f rfl (cc_le_f h236) (j_aload_n rfl rfl (j_bipush (29 : Int32) rfl kb_29 (j_v0 [.ref v0, .int (29 : Int32)] [] rfl rfl rfl rfl rfl rfl hw237 (Or.inl rfl) (t_Mo_puts (by omega) hσ238) (j_iinc [some (.ref v0), some (.int (v1 + (-1 : Int32))), some (.int v2), none, none, none] (v1 + (-1 : Int32)) rfl rfl (by rw [k32_m1]) (Or.inr rfl) rfl (g)))))) (l_Mo_reads_L379 hd v0 v2 (fun _ _ h => h) q_FU (v1 + (-1 : Int32)) σ238)) (fun t240 σ241 => ?_)
                  refine J_bind fun w242 hw242 => ?_
                  refine J_cl fun _ σ243 hσ243 => ?_
                  exact q_J.step (fun g => j_aload_n rfl rfl (j_v0 [.ref v0] [] rfl rfl rfl rfl rfl rfl hw242 (Or.inl rfl) (t_Mo_nextToken (by omega) hσ243) (j_goto rfl (g)))) (l_Mo_reads_L11 hd v0 hR n t240 v2 σ243)
                refine q_J.step (fun g => j_if_t rfl (cc_le_t h236) (j_iload_n rfl rfl (g))) ?_
                refine J_ite (fun h245 => ?_) (fun h245 => ?_)
                · refine J_bind fun w246 hw246 => ?_
                  refine J_cl fun x248 σ247 hσ247 => ?_
                  refine q_J.step (fun g => j_if_f rfl (cc_ne_f h245) (j_aload_n rfl rfl (j_bipush (59 : Int32) rfl kb_59 (j_v1 [.ref v0, .int (59 : Int32)] [] rfl rfl rfl rfl rfl rfl hw246 (Or.inl rfl) (t_Mo_isSign (by omega) hσ247) (g))))) ?_
                  refine J_ite (fun h249 => ?_) (fun h249 => ?_)
                  · refine J_bind fun w250 hw250 => ?_
                    refine J_cl fun x252 σ251 hσ251 => ?_
                    refine q_J.step (fun g => j_if_t rfl (cc_eq_t h249) (j_aload_n rfl rfl (j_iconst (1 : Int32) rfl k32_1 (j_v1 [.ref v0, .int (1 : Int32)] [] rfl rfl rfl rfl rfl rfl hw250 (Or.inl rfl) (t_Mo_errs (by omega) hσ251) (g))))) ?_
                    refine J_ite (fun _ => J_none) (fun hz => ?_)
                    replace hz := Decidable.not_not.mp hz
                    exact J_some (fun h => j_iret rfl (q_zr hz) (hR _ _ h))
                  refine J_bind fun w253 hw253 => ?_
                  refine J_cl fun _ σ254 hσ254 => ?_
                  exact J_some (fun h => j_if_f rfl (cc_eq_f h249) (j_aload_n rfl rfl (j_v0 [.ref v0] [] rfl rfl rfl rfl rfl rfl hw253 (Or.inl rfl) (t_Mo_nextToken (by omega) hσ254) (j_iconst (1 : Int32) rfl k32_1 (j_iret rfl (q_zr (Or.inr rfl)) (hR _ _ h))))))
                refine J_bind fun w256 hw256 => ?_
                refine J_cl fun x258 σ257 hσ257 => ?_
                refine q_J.step (fun g => j_if_t rfl (cc_ne_t h245) (j_aload_n rfl rfl (j_iconst (1 : Int32) rfl k32_1 (j_v1 [.ref v0, .int (1 : Int32)] [] rfl rfl rfl rfl rfl rfl hw256 (Or.inl rfl) (t_Mo_errs (by omega) hσ257) (g))))) ?_
                refine J_ite (fun _ => J_none) (fun hz => ?_)
                replace hz := Decidable.not_not.mp hz
                exact J_some (fun h => j_iret rfl (q_zr hz) (hR _ _ h))
              refine J_bind fun w259 hw259 => ?_
              refine J_cl fun x261 σ260 hσ260 => ?_
              refine q_J.step (fun g => j_if_f rfl (cc_eq_f h217) (j_aload_n rfl rfl (j_aload_n rfl rfl (j_ldc2 (1111 : Int64) rfl kw_1111 (j_v1 [.ref v0, .long (1111 : Int64)] [.ref v0] rfl rfl rfl rfl rfl rfl hw259 (Or.inl rfl) (t_Mo_isWord (by omega) hσ260) (g)))))) ?_
              refine J_sq (fun (t263 : Int32) (σ264 : q_H) => q_G (q_rf fo) d m_Mo_reads o σ' 342 [some (.ref v0), some (.int v1), none, none, none, none] [.int t263, .ref v0] σ264) ?_ (fun t263 σ264 => ?_)
              · refine J_ite (fun h262 => ?_) (fun h262 => ?_)
                · exact J_some (fun h => j_if_t rfl (cc_eq_t h262) (j_bipush (27 : Int32) rfl kb_27 (j_weak (l := [some (.ref v0), some (.int v1), none, none, none, none]) (And.intro (Or.inr rfl) (And.intro (Or.inr rfl) (And.intro (Or.inl rfl) (And.intro (Or.inr rfl) (And.intro (Or.inr rfl) (And.intro (Or.inr rfl) True.intro)))))) (h))))
                exact J_some (fun h => j_if_f rfl (cc_eq_f h262) (j_bipush (26 : Int32) rfl kb_26 (j_goto rfl (j_weak (l := [some (.ref v0), some (.int v1), none, none, none, none]) (And.intro (Or.inr rfl) (And.intro (Or.inr rfl) (And.intro (Or.inl rfl) (And.intro (Or.inr rfl) (And.intro (Or.inr rfl) (And.intro (Or.inr rfl) True.intro)))))) (h)))))
              refine J_bind fun w265 hw265 => ?_
              refine J_cl fun _ σ266 hσ266 => ?_
              refine J_bind fun x268 hx268 => ?_
              refine J_bind fun σ269 hσ269 => ?_
              refine J_bind fun w270 hw270 => ?_
              refine J_cl fun _ σ271 hσ271 => ?_
              exact q_J.step (fun g => j_v0 [.ref v0, .int t263] [] rfl rfl rfl rfl rfl rfl hw265 (Or.inl rfl) (t_Mo_puts (by omega) hσ266) (j_aload_n rfl rfl (j_gfr rfl hx268 (j_iload_n rfl rfl (j_iconst (0 : Int32) rfl k32_0 (j_bas rfl (by decide) hσ269 (j_iconst (1 : Int32) rfl k32_1 (j_istore_n [some (.ref v0), some (.int v1), some (.int (1 : Int32)), none, none, none] rfl rfl (Or.inr rfl) rfl (j_goto rfl (j_aload_n rfl rfl (j_v0 [.ref v0] [] rfl rfl rfl rfl rfl rfl hw270 (Or.inl rfl) (t_Mo_nextToken (by omega) hσ271) (j_goto rfl (g))))))))))))) (l_Mo_reads_L11 hd v0 hR n v1 (1 : Int32) σ271)
            refine J_bind fun w273 hw273 => ?_
            refine J_cl fun x275 σ274 hσ274 => ?_
            refine q_J.step (fun g => j_if_t rfl (cc_ne_t h213) (j_aload_n rfl rfl (j_aload_n rfl rfl (j_ldc2 (1111 : Int64) rfl kw_1111 (j_v1 [.ref v0, .long (1111 : Int64)] [.ref v0] rfl rfl rfl rfl rfl rfl hw273 (Or.inl rfl) (t_Mo_isWord (by omega) hσ274) (g)))))) ?_
            refine J_sq (fun (t277 : Int32) (σ278 : q_H) => q_G (q_rf fo) d m_Mo_reads o σ' 342 [some (.ref v0), some (.int v1), none, none, none, none] [.int t277, .ref v0] σ278) ?_ (fun t277 σ278 => ?_)
            · refine J_ite (fun h276 => ?_) (fun h276 => ?_)
              · exact J_some (fun h => j_if_t rfl (cc_eq_t h276) (j_bipush (27 : Int32) rfl kb_27 (j_weak (l := [some (.ref v0), some (.int v1), none, none, none, none]) (And.intro (Or.inr rfl) (And.intro (Or.inr rfl) (And.intro (Or.inl rfl) (And.intro (Or.inr rfl) (And.intro (Or.inr rfl) (And.intro (Or.inr rfl) True.intro)))))) (h))))
              exact J_some (fun h => j_if_f rfl (cc_eq_f h276) (j_bipush (26 : Int32) rfl kb_26 (j_goto rfl (j_weak (l := [some (.ref v0), some (.int v1), none, none, none, none]) (And.intro (Or.inr rfl) (And.intro (Or.inr rfl) (And.intro (Or.inl rfl) (And.intro (Or.inr rfl) (And.intro (Or.inr rfl) (And.intro (Or.inr rfl) True.intro)))))) (h)))))
            refine J_bind fun w279 hw279 => ?_
            refine J_cl fun _ σ280 hσ280 => ?_
            refine J_bind fun x282 hx282 => ?_
            refine J_bind fun σ283 hσ283 => ?_
            refine J_bind fun w284 hw284 => ?_
            refine J_cl fun _ σ285 hσ285 => ?_
            exact q_J.step (fun g => j_v0 [.ref v0, .int t277] [] rfl rfl rfl rfl rfl rfl hw279 (Or.inl rfl) (t_Mo_puts (by omega) hσ280) (j_aload_n rfl rfl (j_gfr rfl hx282 (j_iload_n rfl rfl (j_iconst (0 : Int32) rfl k32_0 (j_bas rfl (by decide) hσ283 (j_iconst (1 : Int32) rfl k32_1 (j_istore_n [some (.ref v0), some (.int v1), some (.int (1 : Int32)), none, none, none] rfl rfl (Or.inr rfl) rfl (j_goto rfl (j_aload_n rfl rfl (j_v0 [.ref v0] [] rfl rfl rfl rfl rfl rfl hw284 (Or.inl rfl) (t_Mo_nextToken (by omega) hσ285) (j_goto rfl (g))))))))))))) (l_Mo_reads_L11 hd v0 hR n v1 (1 : Int32) σ285)
          refine J_bind fun w287 hw287 => ?_
          refine J_cl fun x289 σ288 hσ288 => ?_
          refine q_J.step (fun g => j_if_f rfl (cc_eq_f h13) (j_aload_n rfl rfl (j_aload_n rfl rfl (j_bipush (43 : Int32) rfl kb_43 (j_v1 [.ref v0, .int (43 : Int32)] [.ref v0] rfl rfl rfl rfl rfl rfl hw287 (Or.inl rfl) (t_Mo_isSign (by omega) hσ288) (g)))))) ?_
          refine J_sq (fun (t295 : Int32) (σ296 : q_H) => q_G (q_rf fo) d m_Mo_reads o σ' 237 [some (.ref v0), some (.int v1), none, none, none, none] [.int t295, .ref v0] σ296) ?_ (fun t295 σ296 => ?_)
          · refine J_ite (fun h290 => ?_) (fun h290 => ?_)
            · refine J_bind fun w291 hw291 => ?_
              refine J_cl fun x293 σ292 hσ292 => ?_
              refine q_J.step (fun g => j_if_t rfl (cc_eq_t h290) (j_aload_n rfl rfl (j_bipush (45 : Int32) rfl kb_45 (j_v1 [.ref v0, .int (45 : Int32)] [.ref v0] rfl rfl rfl rfl rfl rfl hw291 (Or.inl rfl) (t_Mo_isSign (by omega) hσ292) (g))))) ?_
              refine J_ite (fun h294 => ?_) (fun h294 => ?_)
              · exact J_some (fun h => j_if_t rfl (cc_eq_t h294) (j_bipush (22 : Int32) rfl kb_22 (j_weak (l := [some (.ref v0), some (.int v1), none, none, none, none]) (And.intro (Or.inr rfl) (And.intro (Or.inr rfl) (And.intro (Or.inl rfl) (And.intro (Or.inr rfl) (And.intro (Or.inr rfl) (And.intro (Or.inr rfl) True.intro)))))) (h))))
              exact J_some (fun h => j_if_f rfl (cc_eq_f h294) (j_bipush (21 : Int32) rfl kb_21 (j_goto rfl (j_weak (l := [some (.ref v0), some (.int v1), none, none, none, none]) (And.intro (Or.inr rfl) (And.intro (Or.inr rfl) (And.intro (Or.inl rfl) (And.intro (Or.inr rfl) (And.intro (Or.inr rfl) (And.intro (Or.inr rfl) True.intro)))))) (h)))))
            exact J_some (fun h => j_if_f rfl (cc_eq_f h290) (j_bipush (20 : Int32) rfl kb_20 (j_goto rfl (j_weak (l := [some (.ref v0), some (.int v1), none, none, none, none]) (And.intro (Or.inr rfl) (And.intro (Or.inr rfl) (And.intro (Or.inl rfl) (And.intro (Or.inr rfl) (And.intro (Or.inr rfl) (And.intro (Or.inr rfl) True.intro)))))) (h)))))
          refine J_bind fun w297 hw297 => ?_
          refine J_cl fun _ σ298 hσ298 => ?_
          refine J_bind fun w300 hw300 => ?_
          refine J_cl fun _ σ301 hσ301 => ?_
          exact q_J.step (fun g => j_v0 [.ref v0, .int t295] [] rfl rfl rfl rfl rfl rfl hw297 (Or.inl rfl) (t_Mo_puts (by omega) hσ298) (j_iconst (1 : Int32) rfl k32_1 (j_istore_n [some (.ref v0), some (.int v1), some (.int (1 : Int32)), none, none, none] rfl rfl (Or.inr rfl) rfl (j_goto rfl (j_aload_n rfl rfl (j_v0 [.ref v0] [] rfl rfl rfl rfl rfl rfl hw300 (Or.inl rfl) (t_Mo_nextToken (by omega) hσ301) (j_goto rfl (g)))))))) (l_Mo_reads_L11 hd v0 hR n v1 (1 : Int32) σ301)
        refine J_bind fun w303 hw303 => ?_
        refine J_cl fun x305 σ304 hσ304 => ?_
        refine q_J.step (fun g => j_if_t rfl (cc_ne_t h9) (j_aload_n rfl rfl (j_aload_n rfl rfl (j_bipush (43 : Int32) rfl kb_43 (j_v1 [.ref v0, .int (43 : Int32)] [.ref v0] rfl rfl rfl rfl rfl rfl hw303 (Or.inl rfl) (t_Mo_isSign (by omega) hσ304) (g)))))) ?_
        refine J_sq (fun (t311 : Int32) (σ312 : q_H) => q_G (q_rf fo) d m_Mo_reads o σ' 237 [some (.ref v0), some (.int v1), none, none, none, none] [.int t311, .ref v0] σ312) ?_ (fun t311 σ312 => ?_)
        · refine J_ite (fun h306 => ?_) (fun h306 => ?_)
          · refine J_bind fun w307 hw307 => ?_
            refine J_cl fun x309 σ308 hσ308 => ?_
            refine q_J.step (fun g => j_if_t rfl (cc_eq_t h306) (j_aload_n rfl rfl (j_bipush (45 : Int32) rfl kb_45 (j_v1 [.ref v0, .int (45 : Int32)] [.ref v0] rfl rfl rfl rfl rfl rfl hw307 (Or.inl rfl) (t_Mo_isSign (by omega) hσ308) (g))))) ?_
            refine J_ite (fun h310 => ?_) (fun h310 => ?_)
            · exact J_some (fun h => j_if_t rfl (cc_eq_t h310) (j_bipush (22 : Int32) rfl kb_22 (j_weak (l := [some (.ref v0), some (.int v1), none, none, none, none]) (And.intro (Or.inr rfl) (And.intro (Or.inr rfl) (And.intro (Or.inl rfl) (And.intro (Or.inr rfl) (And.intro (Or.inr rfl) (And.intro (Or.inr rfl) True.intro)))))) (h))))
            exact J_some (fun h => j_if_f rfl (cc_eq_f h310) (j_bipush (21 : Int32) rfl kb_21 (j_goto rfl (j_weak (l := [some (.ref v0), some (.int v1), none, none, none, none]) (And.intro (Or.inr rfl) (And.intro (Or.inr rfl) (And.intro (Or.inl rfl) (And.intro (Or.inr rfl) (And.intro (Or.inr rfl) (And.intro (Or.inr rfl) True.intro)))))) (h)))))
          exact J_some (fun h => j_if_f rfl (cc_eq_f h306) (j_bipush (20 : Int32) rfl kb_20 (j_goto rfl (j_weak (l := [some (.ref v0), some (.int v1), none, none, none, none]) (And.intro (Or.inr rfl) (And.intro (Or.inr rfl) (And.intro (Or.inl rfl) (And.intro (Or.inr rfl) (And.intro (Or.inr rfl) (And.intro (Or.inr rfl) True.intro)))))) (h)))))
        refine J_bind fun w313 hw313 => ?_
        refine J_cl fun _ σ314 hσ314 => ?_
        refine J_bind fun w316 hw316 => ?_
        refine J_cl fun _ σ317 hσ317 => ?_
        exact q_J.step (fun g => j_v0 [.ref v0, .int t311] [] rfl rfl rfl rfl rfl rfl hw313 (Or.inl rfl) (t_Mo_puts (by omega) hσ314) (j_iconst (1 : Int32) rfl k32_1 (j_istore_n [some (.ref v0), some (.int v1), some (.int (1 : Int32)), none, none, none] rfl rfl (Or.inr rfl) rfl (j_goto rfl (j_aload_n rfl rfl (j_v0 [.ref v0] [] rfl rfl rfl rfl rfl rfl hw316 (Or.inl rfl) (t_Mo_nextToken (by omega) hσ317) (j_goto rfl (g)))))))) (l_Mo_reads_L11 hd v0 hR n v1 (1 : Int32) σ317)
      refine J_bind fun w319 hw319 => ?_
      refine J_cl fun x321 σ320 hσ320 => ?_
      refine q_J.step (fun g => j_if_t rfl (cc_ne_t h5) (j_aload_n rfl rfl (j_aload_n rfl rfl (j_bipush (43 : Int32) rfl kb_43 (j_v1 [.ref v0, .int (43 : Int32)] [.ref v0] rfl rfl rfl rfl rfl rfl hw319 (Or.inl rfl) (t_Mo_isSign (by omega) hσ320) (g)))))) ?_
      refine J_sq (fun (t327 : Int32) (σ328 : q_H) => q_G (q_rf fo) d m_Mo_reads o σ' 237 [some (.ref v0), some (.int v1), none, none, none, none] [.int t327, .ref v0] σ328) ?_ (fun t327 σ328 => ?_)
      · refine J_ite (fun h322 => ?_) (fun h322 => ?_)
        · refine J_bind fun w323 hw323 => ?_
          refine J_cl fun x325 σ324 hσ324 => ?_
          refine q_J.step (fun g => j_if_t rfl (cc_eq_t h322) (j_aload_n rfl rfl (j_bipush (45 : Int32) rfl kb_45 (j_v1 [.ref v0, .int (45 : Int32)] [.ref v0] rfl rfl rfl rfl rfl rfl hw323 (Or.inl rfl) (t_Mo_isSign (by omega) hσ324) (g))))) ?_
          refine J_ite (fun h326 => ?_) (fun h326 => ?_)
          · exact J_some (fun h => j_if_t rfl (cc_eq_t h326) (j_bipush (22 : Int32) rfl kb_22 (j_weak (l := [some (.ref v0), some (.int v1), none, none, none, none]) (And.intro (Or.inr rfl) (And.intro (Or.inr rfl) (And.intro (Or.inl rfl) (And.intro (Or.inr rfl) (And.intro (Or.inr rfl) (And.intro (Or.inr rfl) True.intro)))))) (h))))
          exact J_some (fun h => j_if_f rfl (cc_eq_f h326) (j_bipush (21 : Int32) rfl kb_21 (j_goto rfl (j_weak (l := [some (.ref v0), some (.int v1), none, none, none, none]) (And.intro (Or.inr rfl) (And.intro (Or.inr rfl) (And.intro (Or.inl rfl) (And.intro (Or.inr rfl) (And.intro (Or.inr rfl) (And.intro (Or.inr rfl) True.intro)))))) (h)))))
        exact J_some (fun h => j_if_f rfl (cc_eq_f h322) (j_bipush (20 : Int32) rfl kb_20 (j_goto rfl (j_weak (l := [some (.ref v0), some (.int v1), none, none, none, none]) (And.intro (Or.inr rfl) (And.intro (Or.inr rfl) (And.intro (Or.inl rfl) (And.intro (Or.inr rfl) (And.intro (Or.inr rfl) (And.intro (Or.inr rfl) True.intro)))))) (h)))))
      refine J_bind fun w329 hw329 => ?_
      refine J_cl fun _ σ330 hσ330 => ?_
      refine J_bind fun w332 hw332 => ?_
      refine J_cl fun _ σ333 hσ333 => ?_
      exact q_J.step (fun g => j_v0 [.ref v0, .int t327] [] rfl rfl rfl rfl rfl rfl hw329 (Or.inl rfl) (t_Mo_puts (by omega) hσ330) (j_iconst (1 : Int32) rfl k32_1 (j_istore_n [some (.ref v0), some (.int v1), some (.int (1 : Int32)), none, none, none] rfl rfl (Or.inr rfl) rfl (j_goto rfl (j_aload_n rfl rfl (j_v0 [.ref v0] [] rfl rfl rfl rfl rfl rfl hw332 (Or.inl rfl) (t_Mo_nextToken (by omega) hσ333) (j_goto rfl (g)))))))) (l_Mo_reads_L11 hd v0 hR n v1 (1 : Int32) σ333)
    refine J_bind fun w335 hw335 => ?_
    refine J_cl fun x337 σ336 hσ336 => ?_
    refine J_bind fun w338 hw338 => ?_
    refine J_cl fun x340 σ339 hσ339 => ?_
    refine J_bind fun w341 hw341 => ?_
    refine J_cl fun x343 σ342 hσ342 => ?_
    refine q_J.step (fun g => j_if_f rfl (cc_eq_f h1) (j_aload_n rfl rfl (j_v1 [.ref v0] [] rfl rfl rfl rfl rfl rfl hw335 (Or.inl rfl) (t_Mo_fact (by omega) hσ336) (j_istore_n [some (.ref v0), some (.int v1), some (.int v2), some (.int x337), none, none] rfl rfl (Or.inr rfl) rfl (j_aload_n rfl rfl (j_ldc2 (10631 : Int64) rfl kw_10631 (j_v1 [.ref v0, .long (10631 : Int64)] [] rfl rfl rfl rfl rfl rfl hw338 (Or.inl rfl) (t_Mo_isWord (by omega) hσ339) (j_istore [some (.ref v0), some (.int v1), some (.int v2), some (.int x337), some (.int x340), none] rfl rfl (Or.inr rfl) rfl (j_aload_n rfl rfl (j_bipush (40 : Int32) rfl kb_40 (j_v1 [.ref v0, .int (40 : Int32)] [] rfl rfl rfl rfl rfl rfl hw341 (Or.inl rfl) (t_Mo_isSign (by omega) hσ342) (j_istore [some (.ref v0), some (.int v1), some (.int v2), some (.int x337), some (.int x340), some (.int x343)] rfl rfl (Or.inr rfl) rfl (j_iload_n rfl rfl (g)))))))))))))) ?_
    refine J_ite (fun h344 => ?_) (fun h344 => ?_)
    · refine q_J.step (fun g => j_if_f rfl (cc_ne_f h344) (j_iload rfl rfl (g))) ?_
      refine J_ite (fun h345 => ?_) (fun h345 => ?_)
      · refine q_J.step (fun g => j_if_f rfl (cc_ne_f h345) (j_iload rfl rfl (g))) ?_
        refine J_ite (fun h346 => ?_) (fun h346 => ?_)
        · refine J_bind fun x347 hx347 => ?_
          refine q_J.step (fun g => j_if_f rfl (cc_ne_f h346) (j_aload_n rfl rfl (j_gfi rfl hx347 (j_iconst (2 : Int32) rfl k32_2 (g))))) ?_
          refine J_ite (fun h348 => ?_) (fun h348 => ?_)
          · refine q_J.step (fun g => j_icmp_t rfl (cc_eq_t h348) (j_iload_n rfl rfl (j_iconst (5 : Int32) rfl k32_5 (g)))) ?_
            refine J_ite (fun h349 => ?_) (fun h349 => ?_)
            · refine J_bind fun w350 hw350 => ?_
              refine J_cl fun x352 σ351 hσ351 => ?_
              refine q_J.step (fun g => j_icmp_f rfl (cc_ne_f h349) (j_aload_n rfl rfl (j_iconst (5 : Int32) rfl k32_5 (j_v1 [.ref v0, .int (5 : Int32)] [] rfl rfl rfl rfl rfl rfl hw350 (Or.inl rfl) (t_Mo_errs (by omega) hσ351) (g))))) ?_
              refine J_ite (fun _ => J_none) (fun hz => ?_)
              replace hz := Decidable.not_not.mp hz
              exact J_some (fun h => j_iret rfl (q_zr hz) (hR _ _ h))
            refine q_J.step (fun g => j_icmp_t rfl (cc_ne_t h349) (j_iload rfl rfl (g))) ?_
            refine J_ite (fun h353 => ?_) (fun h353 => ?_)
            · refine q_J.step (fun g => j_if_f rfl (cc_ne_f h353) (j_iload rfl rfl (g))) ?_
              refine J_sq (fun (t378 : Int32 × Int32) (σ379 : q_H) => q_G (q_rf fo) d m_Mo_reads o σ' 172 [some (.ref v0), some (.int t378.1), some (.int t378.2), none, none, none] [] σ379) ?_ (fun t378 σ379 => ?_)
              · refine J_ite (fun h354 => ?_) (fun h354 => ?_)
                · refine q_J.step (fun g => j_if_t rfl (cc_eq_t h354) (j_aload_n rfl rfl (j_iload_n rfl rfl (g)))) ?_
                  refine J_sq (fun (t357 : Int32) (σ358 : q_H) => q_G (q_rf fo) d m_Mo_reads o σ' 147 [some (.ref v0), some (.int v1), none, none, none, none] [.int t357, .ref v0] σ358) ?_ (fun t357 σ358 => ?_)
                  · refine J_ite (fun h355 => ?_) (fun h355 => ?_)
                    · exact J_some (fun h => j_if_f rfl (cc_le_f h355) (j_iload_n rfl rfl (j_goto rfl (j_weak (l := [some (.ref v0), some (.int v1), none, none, none, none]) (And.intro (Or.inr rfl) (And.intro (Or.inr rfl) (And.intro (Or.inl rfl) (And.intro (Or.inl rfl) (And.intro (Or.inl rfl) (And.intro (Or.inl rfl) True.intro)))))) (h)))))
                    refine J_bind fun x356 hx356 => ?_
                    exact J_some (fun h => j_if_t rfl (cc_le_t h355) (j_bipush (100 : Int32) rfl kb_100 (j_aload_n rfl rfl (j_gfi rfl hx356 (j_iadd rfl (j_weak (l := [some (.ref v0), some (.int v1), none, none, none, none]) (And.intro (Or.inr rfl) (And.intro (Or.inr rfl) (And.intro (Or.inl rfl) (And.intro (Or.inl rfl) (And.intro (Or.inl rfl) (And.intro (Or.inl rfl) True.intro)))))) (h)))))))
                  refine J_bind fun w359 hw359 => ?_
                  refine J_cl fun _ σ360 hσ360 => ?_
                  refine J_sq (fun (t362 : Int32) (σ363 : q_H) => q_G (q_rf fo) d m_Mo_reads o σ' 172 [some (.ref v0), some (.int t362), some (.int (0 : Int32)), none, none, none] [] σ363) (q_J.step (fun g => j_v0 [.ref v0, .int t357] [] rfl rfl rfl rfl rfl rfl hw359 (Or.inl rfl) (t_Mo_puts (by omega) hσ360) (j_iconst (0 : Int32) rfl k32_0 (j_istore_n [some (.ref v0), some (.int v1), some (.int (0 : Int32)), none, none, none] rfl rfl (Or.inr rfl) rfl (g)))) (l_Mo_reads_L152 hd v0 (0 : Int32) (fun _ _ h => h) q_FU v1 σ360)) (fun t362 σ363 => ?_)
                  exact J_some (fun h => h)
                refine q_J.step (fun g => j_if_f rfl (cc_eq_f h354) (j_aload_n rfl rfl (j_iload rfl rfl (g)))) ?_
                refine J_sq (fun (t365 : Int32) (σ366 : q_H) => q_G (q_rf fo) d m_Mo_reads o σ' 99 [some (.ref v0), some (.int v1), some (.int v2), none, some (.int x340), none] [.int t365, .ref v0] σ366) ?_ (fun t365 σ366 => ?_)
                · refine J_ite (fun h364 => ?_) (fun h364 => ?_)
                  · exact J_some (fun h => j_if_t rfl (cc_eq_t h364) (j_bipush (28 : Int32) rfl kb_28 (j_weak (l := [some (.ref v0), some (.int v1), some (.int v2), none, some (.int x340), none]) (And.intro (Or.inr rfl) (And.intro (Or.inr rfl) (And.intro (Or.inr rfl) (And.intro (Or.inl rfl) (And.intro (Or.inr rfl) (And.intro (Or.inl rfl) True.intro)))))) (h))))
                  exact J_some (fun h => j_if_f rfl (cc_eq_f h364) (j_bipush (30 : Int32) rfl kb_30 (j_goto rfl (j_weak (l := [some (.ref v0), some (.int v1), some (.int v2), none, some (.int x340), none]) (And.intro (Or.inr rfl) (And.intro (Or.inr rfl) (And.intro (Or.inr rfl) (And.intro (Or.inl rfl) (And.intro (Or.inr rfl) (And.intro (Or.inl rfl) True.intro)))))) (h)))))
                refine J_bind fun w367 hw367 => ?_
                refine J_cl fun _ σ368 hσ368 => ?_
                refine J_bind fun x370 hx370 => ?_
                refine q_J.step (fun g => j_v0 [.ref v0, .int t365] [] rfl rfl rfl rfl rfl rfl hw367 (Or.inl rfl) (t_Mo_puts (by omega) hσ368) (j_iinc [some (.ref v0), some (.int (v1 + (1 : Int32))), some (.int v2), none, some (.int x340), none] (v1 + (1 : Int32)) rfl rfl (by rw [k32_1]) (Or.inr rfl) rfl (j_aload_n rfl rfl (j_gfr rfl hx370 (j_iload_n rfl rfl (j_iload rfl rfl (g))))))) ?_
                refine J_ite (fun h371 => ?_) (fun h371 => ?_)
                · refine J_bind fun σ372 hσ372 => ?_
                  refine J_bind fun x373 hx373 => ?_
                  refine J_bind fun σ374 hσ374 => ?_
                  exact J_some (fun h => j_if_t rfl (cc_eq_t h371) (j_iconst (2 : Int32) rfl k32_2 (j_ias rfl hσ372 (j_aload_n rfl rfl (j_gfr rfl hx373 (j_iload_n rfl rfl (j_iconst (0 : Int32) rfl k32_0 (j_bas rfl (by decide) hσ374 (j_goto rfl (j_weak (l := [some (.ref v0), some (.int (v1 + (1 : Int32))), some (.int v2), none, none, none]) (And.intro (Or.inr rfl) (And.intro (Or.inr rfl) (And.intro (Or.inr rfl) (And.intro (Or.inr rfl) (And.intro (Or.inl rfl) (And.intro (Or.inr rfl) True.intro)))))) (h)))))))))))
                refine J_bind fun σ375 hσ375 => ?_
                refine J_bind fun x376 hx376 => ?_
                refine J_bind fun σ377 hσ377 => ?_
                exact J_some (fun h => j_if_f rfl (cc_eq_f h371) (j_iconst (1 : Int32) rfl k32_1 (j_goto rfl (j_ias rfl hσ375 (j_aload_n rfl rfl (j_gfr rfl hx376 (j_iload_n rfl rfl (j_iconst (0 : Int32) rfl k32_0 (j_bas rfl (by decide) hσ377 (j_goto rfl (j_weak (l := [some (.ref v0), some (.int (v1 + (1 : Int32))), some (.int v2), none, none, none]) (And.intro (Or.inr rfl) (And.intro (Or.inr rfl) (And.intro (Or.inr rfl) (And.intro (Or.inr rfl) (And.intro (Or.inl rfl) (And.intro (Or.inr rfl) True.intro)))))) (h))))))))))))
              refine J_bind fun w380 hw380 => ?_
              refine J_cl fun _ σ381 hσ381 => ?_
              exact q_J.step (fun g => j_aload_n rfl rfl (j_v0 [.ref v0] [] rfl rfl rfl rfl rfl rfl hw380 (Or.inl rfl) (t_Mo_nextToken (by omega) hσ381) (j_goto rfl (g)))) (l_Mo_reads_L11 hd v0 hR n t378.1 t378.2 σ381)
            refine q_J.step (fun g => j_if_t rfl (cc_ne_t h353) (j_aload_n rfl rfl (j_iload rfl rfl (g)))) ?_
            refine J_sq (fun (t384 : Int32) (σ385 : q_H) => q_G (q_rf fo) d m_Mo_reads o σ' 99 [some (.ref v0), some (.int v1), some (.int v2), none, some (.int x340), none] [.int t384, .ref v0] σ385) ?_ (fun t384 σ385 => ?_)
            · refine J_ite (fun h383 => ?_) (fun h383 => ?_)
              · exact J_some (fun h => j_if_t rfl (cc_eq_t h383) (j_bipush (28 : Int32) rfl kb_28 (j_weak (l := [some (.ref v0), some (.int v1), some (.int v2), none, some (.int x340), none]) (And.intro (Or.inr rfl) (And.intro (Or.inr rfl) (And.intro (Or.inr rfl) (And.intro (Or.inl rfl) (And.intro (Or.inr rfl) (And.intro (Or.inl rfl) True.intro)))))) (h))))
              exact J_some (fun h => j_if_f rfl (cc_eq_f h383) (j_bipush (30 : Int32) rfl kb_30 (j_goto rfl (j_weak (l := [some (.ref v0), some (.int v1), some (.int v2), none, some (.int x340), none]) (And.intro (Or.inr rfl) (And.intro (Or.inr rfl) (And.intro (Or.inr rfl) (And.intro (Or.inl rfl) (And.intro (Or.inr rfl) (And.intro (Or.inl rfl) True.intro)))))) (h)))))
            refine J_bind fun w386 hw386 => ?_
            refine J_cl fun _ σ387 hσ387 => ?_
            refine J_bind fun x389 hx389 => ?_
            refine q_J.step (fun g => j_v0 [.ref v0, .int t384] [] rfl rfl rfl rfl rfl rfl hw386 (Or.inl rfl) (t_Mo_puts (by omega) hσ387) (j_iinc [some (.ref v0), some (.int (v1 + (1 : Int32))), some (.int v2), none, some (.int x340), none] (v1 + (1 : Int32)) rfl rfl (by rw [k32_1]) (Or.inr rfl) rfl (j_aload_n rfl rfl (j_gfr rfl hx389 (j_iload_n rfl rfl (j_iload rfl rfl (g))))))) ?_
            refine J_sq (fun (t391 : Int32) (σ392 : q_H) => q_G (q_rf fo) d m_Mo_reads o σ' 120 [some (.ref v0), some (.int (v1 + (1 : Int32))), some (.int v2), none, none, none] [.int t391, .int (v1 + (1 : Int32)), .ref x389] σ392) ?_ (fun t391 σ392 => ?_)
            · refine J_ite (fun h390 => ?_) (fun h390 => ?_)
              · exact J_some (fun h => j_if_t rfl (cc_eq_t h390) (j_iconst (2 : Int32) rfl k32_2 (j_weak (l := [some (.ref v0), some (.int (v1 + (1 : Int32))), some (.int v2), none, none, none]) (And.intro (Or.inr rfl) (And.intro (Or.inr rfl) (And.intro (Or.inr rfl) (And.intro (Or.inr rfl) (And.intro (Or.inl rfl) (And.intro (Or.inr rfl) True.intro)))))) (h))))
              exact J_some (fun h => j_if_f rfl (cc_eq_f h390) (j_iconst (1 : Int32) rfl k32_1 (j_goto rfl (j_weak (l := [some (.ref v0), some (.int (v1 + (1 : Int32))), some (.int v2), none, none, none]) (And.intro (Or.inr rfl) (And.intro (Or.inr rfl) (And.intro (Or.inr rfl) (And.intro (Or.inr rfl) (And.intro (Or.inl rfl) (And.intro (Or.inr rfl) True.intro)))))) (h)))))
            refine J_bind fun σ393 hσ393 => ?_
            refine J_bind fun x394 hx394 => ?_
            refine J_bind fun σ395 hσ395 => ?_
            refine J_bind fun w396 hw396 => ?_
            refine J_cl fun _ σ397 hσ397 => ?_
            exact q_J.step (fun g => j_ias rfl hσ393 (j_aload_n rfl rfl (j_gfr rfl hx394 (j_iload_n rfl rfl (j_iconst (0 : Int32) rfl k32_0 (j_bas rfl (by decide) hσ395 (j_goto rfl (j_aload_n rfl rfl (j_v0 [.ref v0] [] rfl rfl rfl rfl rfl rfl hw396 (Or.inl rfl) (t_Mo_nextToken (by omega) hσ397) (j_goto rfl (g))))))))))) (l_Mo_reads_L11 hd v0 hR n (v1 + (1 : Int32)) v2 σ397)
          refine J_bind fun w399 hw399 => ?_
          refine J_cl fun x401 σ400 hσ400 => ?_
          refine q_J.step (fun g => j_icmp_f rfl (cc_eq_f h348) (j_aload_n rfl rfl (j_iconst (1 : Int32) rfl k32_1 (j_v1 [.ref v0, .int (1 : Int32)] [] rfl rfl rfl rfl rfl rfl hw399 (Or.inl rfl) (t_Mo_errs (by omega) hσ400) (g))))) ?_
          refine J_ite (fun _ => J_none) (fun hz => ?_)
          replace hz := Decidable.not_not.mp hz
          exact J_some (fun h => j_iret rfl (q_zr hz) (hR _ _ h))
        refine q_J.step (fun g => j_if_t rfl (cc_ne_t h346) (j_iload_n rfl rfl (j_iconst (5 : Int32) rfl k32_5 (g)))) ?_
        refine J_ite (fun h402 => ?_) (fun h402 => ?_)
        · refine J_bind fun w403 hw403 => ?_
          refine J_cl fun x405 σ404 hσ404 => ?_
          refine q_J.step (fun g => j_icmp_f rfl (cc_ne_f h402) (j_aload_n rfl rfl (j_iconst (5 : Int32) rfl k32_5 (j_v1 [.ref v0, .int (5 : Int32)] [] rfl rfl rfl rfl rfl rfl hw403 (Or.inl rfl) (t_Mo_errs (by omega) hσ404) (g))))) ?_
          refine J_ite (fun _ => J_none) (fun hz => ?_)
          replace hz := Decidable.not_not.mp hz
          exact J_some (fun h => j_iret rfl (q_zr hz) (hR _ _ h))
        refine q_J.step (fun g => j_icmp_t rfl (cc_ne_t h402) (j_iload rfl rfl (g))) ?_
        refine J_ite (fun h406 => ?_) (fun h406 => ?_)
        · refine q_J.step (fun g => j_if_f rfl (cc_ne_f h406) (j_iload rfl rfl (g))) ?_
          refine J_sq (fun (t431 : Int32 × Int32) (σ432 : q_H) => q_G (q_rf fo) d m_Mo_reads o σ' 172 [some (.ref v0), some (.int t431.1), some (.int t431.2), none, none, none] [] σ432) ?_ (fun t431 σ432 => ?_)
          · refine J_ite (fun h407 => ?_) (fun h407 => ?_)
            · refine q_J.step (fun g => j_if_t rfl (cc_eq_t h407) (j_aload_n rfl rfl (j_iload_n rfl rfl (g)))) ?_
              refine J_sq (fun (t410 : Int32) (σ411 : q_H) => q_G (q_rf fo) d m_Mo_reads o σ' 147 [some (.ref v0), some (.int v1), none, none, none, none] [.int t410, .ref v0] σ411) ?_ (fun t410 σ411 => ?_)
              · refine J_ite (fun h408 => ?_) (fun h408 => ?_)
                · exact J_some (fun h => j_if_f rfl (cc_le_f h408) (j_iload_n rfl rfl (j_goto rfl (j_weak (l := [some (.ref v0), some (.int v1), none, none, none, none]) (And.intro (Or.inr rfl) (And.intro (Or.inr rfl) (And.intro (Or.inl rfl) (And.intro (Or.inl rfl) (And.intro (Or.inl rfl) (And.intro (Or.inl rfl) True.intro)))))) (h)))))
                refine J_bind fun x409 hx409 => ?_
                exact J_some (fun h => j_if_t rfl (cc_le_t h408) (j_bipush (100 : Int32) rfl kb_100 (j_aload_n rfl rfl (j_gfi rfl hx409 (j_iadd rfl (j_weak (l := [some (.ref v0), some (.int v1), none, none, none, none]) (And.intro (Or.inr rfl) (And.intro (Or.inr rfl) (And.intro (Or.inl rfl) (And.intro (Or.inl rfl) (And.intro (Or.inl rfl) (And.intro (Or.inl rfl) True.intro)))))) (h)))))))
              refine J_bind fun w412 hw412 => ?_
              refine J_cl fun _ σ413 hσ413 => ?_
              refine J_sq (fun (t415 : Int32) (σ416 : q_H) => q_G (q_rf fo) d m_Mo_reads o σ' 172 [some (.ref v0), some (.int t415), some (.int (0 : Int32)), none, none, none] [] σ416) (q_J.step (fun g => j_v0 [.ref v0, .int t410] [] rfl rfl rfl rfl rfl rfl hw412 (Or.inl rfl) (t_Mo_puts (by omega) hσ413) (j_iconst (0 : Int32) rfl k32_0 (j_istore_n [some (.ref v0), some (.int v1), some (.int (0 : Int32)), none, none, none] rfl rfl (Or.inr rfl) rfl (g)))) (l_Mo_reads_L152 hd v0 (0 : Int32) (fun _ _ h => h) q_FU v1 σ413)) (fun t415 σ416 => ?_)
              exact J_some (fun h => h)
            refine q_J.step (fun g => j_if_f rfl (cc_eq_f h407) (j_aload_n rfl rfl (j_iload rfl rfl (g)))) ?_
            refine J_sq (fun (t418 : Int32) (σ419 : q_H) => q_G (q_rf fo) d m_Mo_reads o σ' 99 [some (.ref v0), some (.int v1), some (.int v2), none, some (.int x340), none] [.int t418, .ref v0] σ419) ?_ (fun t418 σ419 => ?_)
            · refine J_ite (fun h417 => ?_) (fun h417 => ?_)
              · exact J_some (fun h => j_if_t rfl (cc_eq_t h417) (j_bipush (28 : Int32) rfl kb_28 (j_weak (l := [some (.ref v0), some (.int v1), some (.int v2), none, some (.int x340), none]) (And.intro (Or.inr rfl) (And.intro (Or.inr rfl) (And.intro (Or.inr rfl) (And.intro (Or.inl rfl) (And.intro (Or.inr rfl) (And.intro (Or.inl rfl) True.intro)))))) (h))))
              exact J_some (fun h => j_if_f rfl (cc_eq_f h417) (j_bipush (30 : Int32) rfl kb_30 (j_goto rfl (j_weak (l := [some (.ref v0), some (.int v1), some (.int v2), none, some (.int x340), none]) (And.intro (Or.inr rfl) (And.intro (Or.inr rfl) (And.intro (Or.inr rfl) (And.intro (Or.inl rfl) (And.intro (Or.inr rfl) (And.intro (Or.inl rfl) True.intro)))))) (h)))))
            refine J_bind fun w420 hw420 => ?_
            refine J_cl fun _ σ421 hσ421 => ?_
            refine J_bind fun x423 hx423 => ?_
            refine q_J.step (fun g => j_v0 [.ref v0, .int t418] [] rfl rfl rfl rfl rfl rfl hw420 (Or.inl rfl) (t_Mo_puts (by omega) hσ421) (j_iinc [some (.ref v0), some (.int (v1 + (1 : Int32))), some (.int v2), none, some (.int x340), none] (v1 + (1 : Int32)) rfl rfl (by rw [k32_1]) (Or.inr rfl) rfl (j_aload_n rfl rfl (j_gfr rfl hx423 (j_iload_n rfl rfl (j_iload rfl rfl (g))))))) ?_
            refine J_ite (fun h424 => ?_) (fun h424 => ?_)
            · refine J_bind fun σ425 hσ425 => ?_
              refine J_bind fun x426 hx426 => ?_
              refine J_bind fun σ427 hσ427 => ?_
              exact J_some (fun h => j_if_t rfl (cc_eq_t h424) (j_iconst (2 : Int32) rfl k32_2 (j_ias rfl hσ425 (j_aload_n rfl rfl (j_gfr rfl hx426 (j_iload_n rfl rfl (j_iconst (0 : Int32) rfl k32_0 (j_bas rfl (by decide) hσ427 (j_goto rfl (j_weak (l := [some (.ref v0), some (.int (v1 + (1 : Int32))), some (.int v2), none, none, none]) (And.intro (Or.inr rfl) (And.intro (Or.inr rfl) (And.intro (Or.inr rfl) (And.intro (Or.inr rfl) (And.intro (Or.inl rfl) (And.intro (Or.inr rfl) True.intro)))))) (h)))))))))))
            refine J_bind fun σ428 hσ428 => ?_
            refine J_bind fun x429 hx429 => ?_
            refine J_bind fun σ430 hσ430 => ?_
            exact J_some (fun h => j_if_f rfl (cc_eq_f h424) (j_iconst (1 : Int32) rfl k32_1 (j_goto rfl (j_ias rfl hσ428 (j_aload_n rfl rfl (j_gfr rfl hx429 (j_iload_n rfl rfl (j_iconst (0 : Int32) rfl k32_0 (j_bas rfl (by decide) hσ430 (j_goto rfl (j_weak (l := [some (.ref v0), some (.int (v1 + (1 : Int32))), some (.int v2), none, none, none]) (And.intro (Or.inr rfl) (And.intro (Or.inr rfl) (And.intro (Or.inr rfl) (And.intro (Or.inr rfl) (And.intro (Or.inl rfl) (And.intro (Or.inr rfl) True.intro)))))) (h))))))))))))
          refine J_bind fun w433 hw433 => ?_
          refine J_cl fun _ σ434 hσ434 => ?_
          exact q_J.step (fun g => j_aload_n rfl rfl (j_v0 [.ref v0] [] rfl rfl rfl rfl rfl rfl hw433 (Or.inl rfl) (t_Mo_nextToken (by omega) hσ434) (j_goto rfl (g)))) (l_Mo_reads_L11 hd v0 hR n t431.1 t431.2 σ434)
        refine q_J.step (fun g => j_if_t rfl (cc_ne_t h406) (j_aload_n rfl rfl (j_iload rfl rfl (g)))) ?_
        refine J_sq (fun (t437 : Int32) (σ438 : q_H) => q_G (q_rf fo) d m_Mo_reads o σ' 99 [some (.ref v0), some (.int v1), some (.int v2), none, some (.int x340), none] [.int t437, .ref v0] σ438) ?_ (fun t437 σ438 => ?_)
        · refine J_ite (fun h436 => ?_) (fun h436 => ?_)
          · exact J_some (fun h => j_if_t rfl (cc_eq_t h436) (j_bipush (28 : Int32) rfl kb_28 (j_weak (l := [some (.ref v0), some (.int v1), some (.int v2), none, some (.int x340), none]) (And.intro (Or.inr rfl) (And.intro (Or.inr rfl) (And.intro (Or.inr rfl) (And.intro (Or.inl rfl) (And.intro (Or.inr rfl) (And.intro (Or.inl rfl) True.intro)))))) (h))))
          exact J_some (fun h => j_if_f rfl (cc_eq_f h436) (j_bipush (30 : Int32) rfl kb_30 (j_goto rfl (j_weak (l := [some (.ref v0), some (.int v1), some (.int v2), none, some (.int x340), none]) (And.intro (Or.inr rfl) (And.intro (Or.inr rfl) (And.intro (Or.inr rfl) (And.intro (Or.inl rfl) (And.intro (Or.inr rfl) (And.intro (Or.inl rfl) True.intro)))))) (h)))))
        refine J_bind fun w439 hw439 => ?_
        refine J_cl fun _ σ440 hσ440 => ?_
        refine J_bind fun x442 hx442 => ?_
        refine q_J.step (fun g => j_v0 [.ref v0, .int t437] [] rfl rfl rfl rfl rfl rfl hw439 (Or.inl rfl) (t_Mo_puts (by omega) hσ440) (j_iinc [some (.ref v0), some (.int (v1 + (1 : Int32))), some (.int v2), none, some (.int x340), none] (v1 + (1 : Int32)) rfl rfl (by rw [k32_1]) (Or.inr rfl) rfl (j_aload_n rfl rfl (j_gfr rfl hx442 (j_iload_n rfl rfl (j_iload rfl rfl (g))))))) ?_
        refine J_sq (fun (t444 : Int32) (σ445 : q_H) => q_G (q_rf fo) d m_Mo_reads o σ' 120 [some (.ref v0), some (.int (v1 + (1 : Int32))), some (.int v2), none, none, none] [.int t444, .int (v1 + (1 : Int32)), .ref x442] σ445) ?_ (fun t444 σ445 => ?_)
        · refine J_ite (fun h443 => ?_) (fun h443 => ?_)
          · exact J_some (fun h => j_if_t rfl (cc_eq_t h443) (j_iconst (2 : Int32) rfl k32_2 (j_weak (l := [some (.ref v0), some (.int (v1 + (1 : Int32))), some (.int v2), none, none, none]) (And.intro (Or.inr rfl) (And.intro (Or.inr rfl) (And.intro (Or.inr rfl) (And.intro (Or.inr rfl) (And.intro (Or.inl rfl) (And.intro (Or.inr rfl) True.intro)))))) (h))))
          exact J_some (fun h => j_if_f rfl (cc_eq_f h443) (j_iconst (1 : Int32) rfl k32_1 (j_goto rfl (j_weak (l := [some (.ref v0), some (.int (v1 + (1 : Int32))), some (.int v2), none, none, none]) (And.intro (Or.inr rfl) (And.intro (Or.inr rfl) (And.intro (Or.inr rfl) (And.intro (Or.inr rfl) (And.intro (Or.inl rfl) (And.intro (Or.inr rfl) True.intro)))))) (h)))))
        refine J_bind fun σ446 hσ446 => ?_
        refine J_bind fun x447 hx447 => ?_
        refine J_bind fun σ448 hσ448 => ?_
        refine J_bind fun w449 hw449 => ?_
        refine J_cl fun _ σ450 hσ450 => ?_
        exact q_J.step (fun g => j_ias rfl hσ446 (j_aload_n rfl rfl (j_gfr rfl hx447 (j_iload_n rfl rfl (j_iconst (0 : Int32) rfl k32_0 (j_bas rfl (by decide) hσ448 (j_goto rfl (j_aload_n rfl rfl (j_v0 [.ref v0] [] rfl rfl rfl rfl rfl rfl hw449 (Or.inl rfl) (t_Mo_nextToken (by omega) hσ450) (j_goto rfl (g))))))))))) (l_Mo_reads_L11 hd v0 hR n (v1 + (1 : Int32)) v2 σ450)
      refine q_J.step (fun g => j_if_t rfl (cc_ne_t h345) (j_iload_n rfl rfl (j_iconst (5 : Int32) rfl k32_5 (g)))) ?_
      refine J_ite (fun h452 => ?_) (fun h452 => ?_)
      · refine J_bind fun w453 hw453 => ?_
        refine J_cl fun x455 σ454 hσ454 => ?_
        refine q_J.step (fun g => j_icmp_f rfl (cc_ne_f h452) (j_aload_n rfl rfl (j_iconst (5 : Int32) rfl k32_5 (j_v1 [.ref v0, .int (5 : Int32)] [] rfl rfl rfl rfl rfl rfl hw453 (Or.inl rfl) (t_Mo_errs (by omega) hσ454) (g))))) ?_
        refine J_ite (fun _ => J_none) (fun hz => ?_)
        replace hz := Decidable.not_not.mp hz
        exact J_some (fun h => j_iret rfl (q_zr hz) (hR _ _ h))
      refine q_J.step (fun g => j_icmp_t rfl (cc_ne_t h452) (j_iload rfl rfl (g))) ?_
      refine J_ite (fun h456 => ?_) (fun h456 => ?_)
      · refine q_J.step (fun g => j_if_f rfl (cc_ne_f h456) (j_iload rfl rfl (g))) ?_
        refine J_sq (fun (t481 : Int32 × Int32) (σ482 : q_H) => q_G (q_rf fo) d m_Mo_reads o σ' 172 [some (.ref v0), some (.int t481.1), some (.int t481.2), none, none, none] [] σ482) ?_ (fun t481 σ482 => ?_)
        · refine J_ite (fun h457 => ?_) (fun h457 => ?_)
          · refine q_J.step (fun g => j_if_t rfl (cc_eq_t h457) (j_aload_n rfl rfl (j_iload_n rfl rfl (g)))) ?_
            refine J_sq (fun (t460 : Int32) (σ461 : q_H) => q_G (q_rf fo) d m_Mo_reads o σ' 147 [some (.ref v0), some (.int v1), none, none, none, none] [.int t460, .ref v0] σ461) ?_ (fun t460 σ461 => ?_)
            · refine J_ite (fun h458 => ?_) (fun h458 => ?_)
              · exact J_some (fun h => j_if_f rfl (cc_le_f h458) (j_iload_n rfl rfl (j_goto rfl (j_weak (l := [some (.ref v0), some (.int v1), none, none, none, none]) (And.intro (Or.inr rfl) (And.intro (Or.inr rfl) (And.intro (Or.inl rfl) (And.intro (Or.inl rfl) (And.intro (Or.inl rfl) (And.intro (Or.inl rfl) True.intro)))))) (h)))))
              refine J_bind fun x459 hx459 => ?_
              exact J_some (fun h => j_if_t rfl (cc_le_t h458) (j_bipush (100 : Int32) rfl kb_100 (j_aload_n rfl rfl (j_gfi rfl hx459 (j_iadd rfl (j_weak (l := [some (.ref v0), some (.int v1), none, none, none, none]) (And.intro (Or.inr rfl) (And.intro (Or.inr rfl) (And.intro (Or.inl rfl) (And.intro (Or.inl rfl) (And.intro (Or.inl rfl) (And.intro (Or.inl rfl) True.intro)))))) (h)))))))
            refine J_bind fun w462 hw462 => ?_
            refine J_cl fun _ σ463 hσ463 => ?_
            refine J_sq (fun (t465 : Int32) (σ466 : q_H) => q_G (q_rf fo) d m_Mo_reads o σ' 172 [some (.ref v0), some (.int t465), some (.int (0 : Int32)), none, none, none] [] σ466) (q_J.step (fun g => j_v0 [.ref v0, .int t460] [] rfl rfl rfl rfl rfl rfl hw462 (Or.inl rfl) (t_Mo_puts (by omega) hσ463) (j_iconst (0 : Int32) rfl k32_0 (j_istore_n [some (.ref v0), some (.int v1), some (.int (0 : Int32)), none, none, none] rfl rfl (Or.inr rfl) rfl (g)))) (l_Mo_reads_L152 hd v0 (0 : Int32) (fun _ _ h => h) q_FU v1 σ463)) (fun t465 σ466 => ?_)
            exact J_some (fun h => h)
          refine q_J.step (fun g => j_if_f rfl (cc_eq_f h457) (j_aload_n rfl rfl (j_iload rfl rfl (g)))) ?_
          refine J_sq (fun (t468 : Int32) (σ469 : q_H) => q_G (q_rf fo) d m_Mo_reads o σ' 99 [some (.ref v0), some (.int v1), some (.int v2), none, some (.int x340), none] [.int t468, .ref v0] σ469) ?_ (fun t468 σ469 => ?_)
          · refine J_ite (fun h467 => ?_) (fun h467 => ?_)
            · exact J_some (fun h => j_if_t rfl (cc_eq_t h467) (j_bipush (28 : Int32) rfl kb_28 (j_weak (l := [some (.ref v0), some (.int v1), some (.int v2), none, some (.int x340), none]) (And.intro (Or.inr rfl) (And.intro (Or.inr rfl) (And.intro (Or.inr rfl) (And.intro (Or.inl rfl) (And.intro (Or.inr rfl) (And.intro (Or.inl rfl) True.intro)))))) (h))))
            exact J_some (fun h => j_if_f rfl (cc_eq_f h467) (j_bipush (30 : Int32) rfl kb_30 (j_goto rfl (j_weak (l := [some (.ref v0), some (.int v1), some (.int v2), none, some (.int x340), none]) (And.intro (Or.inr rfl) (And.intro (Or.inr rfl) (And.intro (Or.inr rfl) (And.intro (Or.inl rfl) (And.intro (Or.inr rfl) (And.intro (Or.inl rfl) True.intro)))))) (h)))))
          refine J_bind fun w470 hw470 => ?_
          refine J_cl fun _ σ471 hσ471 => ?_
          refine J_bind fun x473 hx473 => ?_
          refine q_J.step (fun g => j_v0 [.ref v0, .int t468] [] rfl rfl rfl rfl rfl rfl hw470 (Or.inl rfl) (t_Mo_puts (by omega) hσ471) (j_iinc [some (.ref v0), some (.int (v1 + (1 : Int32))), some (.int v2), none, some (.int x340), none] (v1 + (1 : Int32)) rfl rfl (by rw [k32_1]) (Or.inr rfl) rfl (j_aload_n rfl rfl (j_gfr rfl hx473 (j_iload_n rfl rfl (j_iload rfl rfl (g))))))) ?_
          refine J_ite (fun h474 => ?_) (fun h474 => ?_)
          · refine J_bind fun σ475 hσ475 => ?_
            refine J_bind fun x476 hx476 => ?_
            refine J_bind fun σ477 hσ477 => ?_
            exact J_some (fun h => j_if_t rfl (cc_eq_t h474) (j_iconst (2 : Int32) rfl k32_2 (j_ias rfl hσ475 (j_aload_n rfl rfl (j_gfr rfl hx476 (j_iload_n rfl rfl (j_iconst (0 : Int32) rfl k32_0 (j_bas rfl (by decide) hσ477 (j_goto rfl (j_weak (l := [some (.ref v0), some (.int (v1 + (1 : Int32))), some (.int v2), none, none, none]) (And.intro (Or.inr rfl) (And.intro (Or.inr rfl) (And.intro (Or.inr rfl) (And.intro (Or.inr rfl) (And.intro (Or.inl rfl) (And.intro (Or.inr rfl) True.intro)))))) (h)))))))))))
          refine J_bind fun σ478 hσ478 => ?_
          refine J_bind fun x479 hx479 => ?_
          refine J_bind fun σ480 hσ480 => ?_
          exact J_some (fun h => j_if_f rfl (cc_eq_f h474) (j_iconst (1 : Int32) rfl k32_1 (j_goto rfl (j_ias rfl hσ478 (j_aload_n rfl rfl (j_gfr rfl hx479 (j_iload_n rfl rfl (j_iconst (0 : Int32) rfl k32_0 (j_bas rfl (by decide) hσ480 (j_goto rfl (j_weak (l := [some (.ref v0), some (.int (v1 + (1 : Int32))), some (.int v2), none, none, none]) (And.intro (Or.inr rfl) (And.intro (Or.inr rfl) (And.intro (Or.inr rfl) (And.intro (Or.inr rfl) (And.intro (Or.inl rfl) (And.intro (Or.inr rfl) True.intro)))))) (h))))))))))))
        refine J_bind fun w483 hw483 => ?_
        refine J_cl fun _ σ484 hσ484 => ?_
        exact q_J.step (fun g => j_aload_n rfl rfl (j_v0 [.ref v0] [] rfl rfl rfl rfl rfl rfl hw483 (Or.inl rfl) (t_Mo_nextToken (by omega) hσ484) (j_goto rfl (g)))) (l_Mo_reads_L11 hd v0 hR n t481.1 t481.2 σ484)
      refine q_J.step (fun g => j_if_t rfl (cc_ne_t h456) (j_aload_n rfl rfl (j_iload rfl rfl (g)))) ?_
      refine J_sq (fun (t487 : Int32) (σ488 : q_H) => q_G (q_rf fo) d m_Mo_reads o σ' 99 [some (.ref v0), some (.int v1), some (.int v2), none, some (.int x340), none] [.int t487, .ref v0] σ488) ?_ (fun t487 σ488 => ?_)
      · refine J_ite (fun h486 => ?_) (fun h486 => ?_)
        · exact J_some (fun h => j_if_t rfl (cc_eq_t h486) (j_bipush (28 : Int32) rfl kb_28 (j_weak (l := [some (.ref v0), some (.int v1), some (.int v2), none, some (.int x340), none]) (And.intro (Or.inr rfl) (And.intro (Or.inr rfl) (And.intro (Or.inr rfl) (And.intro (Or.inl rfl) (And.intro (Or.inr rfl) (And.intro (Or.inl rfl) True.intro)))))) (h))))
        exact J_some (fun h => j_if_f rfl (cc_eq_f h486) (j_bipush (30 : Int32) rfl kb_30 (j_goto rfl (j_weak (l := [some (.ref v0), some (.int v1), some (.int v2), none, some (.int x340), none]) (And.intro (Or.inr rfl) (And.intro (Or.inr rfl) (And.intro (Or.inr rfl) (And.intro (Or.inl rfl) (And.intro (Or.inr rfl) (And.intro (Or.inl rfl) True.intro)))))) (h)))))
      refine J_bind fun w489 hw489 => ?_
      refine J_cl fun _ σ490 hσ490 => ?_
      refine J_bind fun x492 hx492 => ?_
      refine q_J.step (fun g => j_v0 [.ref v0, .int t487] [] rfl rfl rfl rfl rfl rfl hw489 (Or.inl rfl) (t_Mo_puts (by omega) hσ490) (j_iinc [some (.ref v0), some (.int (v1 + (1 : Int32))), some (.int v2), none, some (.int x340), none] (v1 + (1 : Int32)) rfl rfl (by rw [k32_1]) (Or.inr rfl) rfl (j_aload_n rfl rfl (j_gfr rfl hx492 (j_iload_n rfl rfl (j_iload rfl rfl (g))))))) ?_
      refine J_sq (fun (t494 : Int32) (σ495 : q_H) => q_G (q_rf fo) d m_Mo_reads o σ' 120 [some (.ref v0), some (.int (v1 + (1 : Int32))), some (.int v2), none, none, none] [.int t494, .int (v1 + (1 : Int32)), .ref x492] σ495) ?_ (fun t494 σ495 => ?_)
      · refine J_ite (fun h493 => ?_) (fun h493 => ?_)
        · exact J_some (fun h => j_if_t rfl (cc_eq_t h493) (j_iconst (2 : Int32) rfl k32_2 (j_weak (l := [some (.ref v0), some (.int (v1 + (1 : Int32))), some (.int v2), none, none, none]) (And.intro (Or.inr rfl) (And.intro (Or.inr rfl) (And.intro (Or.inr rfl) (And.intro (Or.inr rfl) (And.intro (Or.inl rfl) (And.intro (Or.inr rfl) True.intro)))))) (h))))
        exact J_some (fun h => j_if_f rfl (cc_eq_f h493) (j_iconst (1 : Int32) rfl k32_1 (j_goto rfl (j_weak (l := [some (.ref v0), some (.int (v1 + (1 : Int32))), some (.int v2), none, none, none]) (And.intro (Or.inr rfl) (And.intro (Or.inr rfl) (And.intro (Or.inr rfl) (And.intro (Or.inr rfl) (And.intro (Or.inl rfl) (And.intro (Or.inr rfl) True.intro)))))) (h)))))
      refine J_bind fun σ496 hσ496 => ?_
      refine J_bind fun x497 hx497 => ?_
      refine J_bind fun σ498 hσ498 => ?_
      refine J_bind fun w499 hw499 => ?_
      refine J_cl fun _ σ500 hσ500 => ?_
      exact q_J.step (fun g => j_ias rfl hσ496 (j_aload_n rfl rfl (j_gfr rfl hx497 (j_iload_n rfl rfl (j_iconst (0 : Int32) rfl k32_0 (j_bas rfl (by decide) hσ498 (j_goto rfl (j_aload_n rfl rfl (j_v0 [.ref v0] [] rfl rfl rfl rfl rfl rfl hw499 (Or.inl rfl) (t_Mo_nextToken (by omega) hσ500) (j_goto rfl (g))))))))))) (l_Mo_reads_L11 hd v0 hR n (v1 + (1 : Int32)) v2 σ500)
    refine q_J.step (fun g => j_if_t rfl (cc_ne_t h344) (j_iload_n rfl rfl (j_iconst (5 : Int32) rfl k32_5 (g)))) ?_
    refine J_ite (fun h502 => ?_) (fun h502 => ?_)
    · refine J_bind fun w503 hw503 => ?_
      refine J_cl fun x505 σ504 hσ504 => ?_
      refine q_J.step (fun g => j_icmp_f rfl (cc_ne_f h502) (j_aload_n rfl rfl (j_iconst (5 : Int32) rfl k32_5 (j_v1 [.ref v0, .int (5 : Int32)] [] rfl rfl rfl rfl rfl rfl hw503 (Or.inl rfl) (t_Mo_errs (by omega) hσ504) (g))))) ?_
      refine J_ite (fun _ => J_none) (fun hz => ?_)
      replace hz := Decidable.not_not.mp hz
      exact J_some (fun h => j_iret rfl (q_zr hz) (hR _ _ h))
    refine q_J.step (fun g => j_icmp_t rfl (cc_ne_t h502) (j_iload rfl rfl (g))) ?_
    refine J_ite (fun h506 => ?_) (fun h506 => ?_)
    · refine q_J.step (fun g => j_if_f rfl (cc_ne_f h506) (j_iload rfl rfl (g))) ?_
      refine J_sq (fun (t531 : Int32 × Int32) (σ532 : q_H) => q_G (q_rf fo) d m_Mo_reads o σ' 172 [some (.ref v0), some (.int t531.1), some (.int t531.2), none, none, none] [] σ532) ?_ (fun t531 σ532 => ?_)
      · refine J_ite (fun h507 => ?_) (fun h507 => ?_)
        · refine q_J.step (fun g => j_if_t rfl (cc_eq_t h507) (j_aload_n rfl rfl (j_iload_n rfl rfl (g)))) ?_
          refine J_sq (fun (t510 : Int32) (σ511 : q_H) => q_G (q_rf fo) d m_Mo_reads o σ' 147 [some (.ref v0), some (.int v1), none, none, none, none] [.int t510, .ref v0] σ511) ?_ (fun t510 σ511 => ?_)
          · refine J_ite (fun h508 => ?_) (fun h508 => ?_)
            · exact J_some (fun h => j_if_f rfl (cc_le_f h508) (j_iload_n rfl rfl (j_goto rfl (j_weak (l := [some (.ref v0), some (.int v1), none, none, none, none]) (And.intro (Or.inr rfl) (And.intro (Or.inr rfl) (And.intro (Or.inl rfl) (And.intro (Or.inl rfl) (And.intro (Or.inl rfl) (And.intro (Or.inl rfl) True.intro)))))) (h)))))
            refine J_bind fun x509 hx509 => ?_
            exact J_some (fun h => j_if_t rfl (cc_le_t h508) (j_bipush (100 : Int32) rfl kb_100 (j_aload_n rfl rfl (j_gfi rfl hx509 (j_iadd rfl (j_weak (l := [some (.ref v0), some (.int v1), none, none, none, none]) (And.intro (Or.inr rfl) (And.intro (Or.inr rfl) (And.intro (Or.inl rfl) (And.intro (Or.inl rfl) (And.intro (Or.inl rfl) (And.intro (Or.inl rfl) True.intro)))))) (h)))))))
          refine J_bind fun w512 hw512 => ?_
          refine J_cl fun _ σ513 hσ513 => ?_
          refine J_sq (fun (t515 : Int32) (σ516 : q_H) => q_G (q_rf fo) d m_Mo_reads o σ' 172 [some (.ref v0), some (.int t515), some (.int (0 : Int32)), none, none, none] [] σ516) (q_J.step (fun g => j_v0 [.ref v0, .int t510] [] rfl rfl rfl rfl rfl rfl hw512 (Or.inl rfl) (t_Mo_puts (by omega) hσ513) (j_iconst (0 : Int32) rfl k32_0 (j_istore_n [some (.ref v0), some (.int v1), some (.int (0 : Int32)), none, none, none] rfl rfl (Or.inr rfl) rfl (g)))) (l_Mo_reads_L152 hd v0 (0 : Int32) (fun _ _ h => h) q_FU v1 σ513)) (fun t515 σ516 => ?_)
          exact J_some (fun h => h)
        refine q_J.step (fun g => j_if_f rfl (cc_eq_f h507) (j_aload_n rfl rfl (j_iload rfl rfl (g)))) ?_
        refine J_sq (fun (t518 : Int32) (σ519 : q_H) => q_G (q_rf fo) d m_Mo_reads o σ' 99 [some (.ref v0), some (.int v1), some (.int v2), none, some (.int x340), none] [.int t518, .ref v0] σ519) ?_ (fun t518 σ519 => ?_)
        · refine J_ite (fun h517 => ?_) (fun h517 => ?_)
          · exact J_some (fun h => j_if_t rfl (cc_eq_t h517) (j_bipush (28 : Int32) rfl kb_28 (j_weak (l := [some (.ref v0), some (.int v1), some (.int v2), none, some (.int x340), none]) (And.intro (Or.inr rfl) (And.intro (Or.inr rfl) (And.intro (Or.inr rfl) (And.intro (Or.inl rfl) (And.intro (Or.inr rfl) (And.intro (Or.inl rfl) True.intro)))))) (h))))
          exact J_some (fun h => j_if_f rfl (cc_eq_f h517) (j_bipush (30 : Int32) rfl kb_30 (j_goto rfl (j_weak (l := [some (.ref v0), some (.int v1), some (.int v2), none, some (.int x340), none]) (And.intro (Or.inr rfl) (And.intro (Or.inr rfl) (And.intro (Or.inr rfl) (And.intro (Or.inl rfl) (And.intro (Or.inr rfl) (And.intro (Or.inl rfl) True.intro)))))) (h)))))
        refine J_bind fun w520 hw520 => ?_
        refine J_cl fun _ σ521 hσ521 => ?_
        refine J_bind fun x523 hx523 => ?_
        refine q_J.step (fun g => j_v0 [.ref v0, .int t518] [] rfl rfl rfl rfl rfl rfl hw520 (Or.inl rfl) (t_Mo_puts (by omega) hσ521) (j_iinc [some (.ref v0), some (.int (v1 + (1 : Int32))), some (.int v2), none, some (.int x340), none] (v1 + (1 : Int32)) rfl rfl (by rw [k32_1]) (Or.inr rfl) rfl (j_aload_n rfl rfl (j_gfr rfl hx523 (j_iload_n rfl rfl (j_iload rfl rfl (g))))))) ?_
        refine J_ite (fun h524 => ?_) (fun h524 => ?_)
        · refine J_bind fun σ525 hσ525 => ?_
          refine J_bind fun x526 hx526 => ?_
          refine J_bind fun σ527 hσ527 => ?_
          exact J_some (fun h => j_if_t rfl (cc_eq_t h524) (j_iconst (2 : Int32) rfl k32_2 (j_ias rfl hσ525 (j_aload_n rfl rfl (j_gfr rfl hx526 (j_iload_n rfl rfl (j_iconst (0 : Int32) rfl k32_0 (j_bas rfl (by decide) hσ527 (j_goto rfl (j_weak (l := [some (.ref v0), some (.int (v1 + (1 : Int32))), some (.int v2), none, none, none]) (And.intro (Or.inr rfl) (And.intro (Or.inr rfl) (And.intro (Or.inr rfl) (And.intro (Or.inr rfl) (And.intro (Or.inl rfl) (And.intro (Or.inr rfl) True.intro)))))) (h)))))))))))
        refine J_bind fun σ528 hσ528 => ?_
        refine J_bind fun x529 hx529 => ?_
        refine J_bind fun σ530 hσ530 => ?_
        exact J_some (fun h => j_if_f rfl (cc_eq_f h524) (j_iconst (1 : Int32) rfl k32_1 (j_goto rfl (j_ias rfl hσ528 (j_aload_n rfl rfl (j_gfr rfl hx529 (j_iload_n rfl rfl (j_iconst (0 : Int32) rfl k32_0 (j_bas rfl (by decide) hσ530 (j_goto rfl (j_weak (l := [some (.ref v0), some (.int (v1 + (1 : Int32))), some (.int v2), none, none, none]) (And.intro (Or.inr rfl) (And.intro (Or.inr rfl) (And.intro (Or.inr rfl) (And.intro (Or.inr rfl) (And.intro (Or.inl rfl) (And.intro (Or.inr rfl) True.intro)))))) (h))))))))))))
      refine J_bind fun w533 hw533 => ?_
      refine J_cl fun _ σ534 hσ534 => ?_
      exact q_J.step (fun g => j_aload_n rfl rfl (j_v0 [.ref v0] [] rfl rfl rfl rfl rfl rfl hw533 (Or.inl rfl) (t_Mo_nextToken (by omega) hσ534) (j_goto rfl (g)))) (l_Mo_reads_L11 hd v0 hR n t531.1 t531.2 σ534)
    refine q_J.step (fun g => j_if_t rfl (cc_ne_t h506) (j_aload_n rfl rfl (j_iload rfl rfl (g)))) ?_
    refine J_sq (fun (t537 : Int32) (σ538 : q_H) => q_G (q_rf fo) d m_Mo_reads o σ' 99 [some (.ref v0), some (.int v1), some (.int v2), none, some (.int x340), none] [.int t537, .ref v0] σ538) ?_ (fun t537 σ538 => ?_)
    · refine J_ite (fun h536 => ?_) (fun h536 => ?_)
      · exact J_some (fun h => j_if_t rfl (cc_eq_t h536) (j_bipush (28 : Int32) rfl kb_28 (j_weak (l := [some (.ref v0), some (.int v1), some (.int v2), none, some (.int x340), none]) (And.intro (Or.inr rfl) (And.intro (Or.inr rfl) (And.intro (Or.inr rfl) (And.intro (Or.inl rfl) (And.intro (Or.inr rfl) (And.intro (Or.inl rfl) True.intro)))))) (h))))
      exact J_some (fun h => j_if_f rfl (cc_eq_f h536) (j_bipush (30 : Int32) rfl kb_30 (j_goto rfl (j_weak (l := [some (.ref v0), some (.int v1), some (.int v2), none, some (.int x340), none]) (And.intro (Or.inr rfl) (And.intro (Or.inr rfl) (And.intro (Or.inr rfl) (And.intro (Or.inl rfl) (And.intro (Or.inr rfl) (And.intro (Or.inl rfl) True.intro)))))) (h)))))
    refine J_bind fun w539 hw539 => ?_
    refine J_cl fun _ σ540 hσ540 => ?_
    refine J_bind fun x542 hx542 => ?_
    refine q_J.step (fun g => j_v0 [.ref v0, .int t537] [] rfl rfl rfl rfl rfl rfl hw539 (Or.inl rfl) (t_Mo_puts (by omega) hσ540) (j_iinc [some (.ref v0), some (.int (v1 + (1 : Int32))), some (.int v2), none, some (.int x340), none] (v1 + (1 : Int32)) rfl rfl (by rw [k32_1]) (Or.inr rfl) rfl (j_aload_n rfl rfl (j_gfr rfl hx542 (j_iload_n rfl rfl (j_iload rfl rfl (g))))))) ?_
    refine J_sq (fun (t544 : Int32) (σ545 : q_H) => q_G (q_rf fo) d m_Mo_reads o σ' 120 [some (.ref v0), some (.int (v1 + (1 : Int32))), some (.int v2), none, none, none] [.int t544, .int (v1 + (1 : Int32)), .ref x542] σ545) ?_ (fun t544 σ545 => ?_)
    · refine J_ite (fun h543 => ?_) (fun h543 => ?_)
      · exact J_some (fun h => j_if_t rfl (cc_eq_t h543) (j_iconst (2 : Int32) rfl k32_2 (j_weak (l := [some (.ref v0), some (.int (v1 + (1 : Int32))), some (.int v2), none, none, none]) (And.intro (Or.inr rfl) (And.intro (Or.inr rfl) (And.intro (Or.inr rfl) (And.intro (Or.inr rfl) (And.intro (Or.inl rfl) (And.intro (Or.inr rfl) True.intro)))))) (h))))
      exact J_some (fun h => j_if_f rfl (cc_eq_f h543) (j_iconst (1 : Int32) rfl k32_1 (j_goto rfl (j_weak (l := [some (.ref v0), some (.int (v1 + (1 : Int32))), some (.int v2), none, none, none]) (And.intro (Or.inr rfl) (And.intro (Or.inr rfl) (And.intro (Or.inr rfl) (And.intro (Or.inr rfl) (And.intro (Or.inl rfl) (And.intro (Or.inr rfl) True.intro)))))) (h)))))
    refine J_bind fun σ546 hσ546 => ?_
    refine J_bind fun x547 hx547 => ?_
    refine J_bind fun σ548 hσ548 => ?_
    refine J_bind fun w549 hw549 => ?_
    refine J_cl fun _ σ550 hσ550 => ?_
    exact q_J.step (fun g => j_ias rfl hσ546 (j_aload_n rfl rfl (j_gfr rfl hx547 (j_iload_n rfl rfl (j_iconst (0 : Int32) rfl k32_0 (j_bas rfl (by decide) hσ548 (j_goto rfl (j_aload_n rfl rfl (j_v0 [.ref v0] [] rfl rfl rfl rfl rfl rfl hw549 (Or.inl rfl) (t_Mo_nextToken (by omega) hσ550) (j_goto rfl (g))))))))))) (l_Mo_reads_L11 hd v0 hR n (v1 + (1 : Int32)) v2 σ550)

set_option maxRecDepth 100000 in
theorem b_Mo_reads {fo : Option Nat} {d : Nat} (hd : 3 ≤ d + 1) {o : q_O} {σ' : q_H} (v0 : Nat) (σ : q_H) : q_J (fun (r : Int32) (σ1 : q_H) => o = .inl (some (.int r)) ∧ σ' = σ1) (f_Mo_reads v0 σ) (q_G (q_rf fo) d m_Mo_reads o σ' 0 [some (.ref v0), none, none, none, none, none] [] σ) := by
  unfold f_Mo_reads
  refine J_bind fun x1 hx1 => ?_
  refine J_bind fun σ2 hσ2 => ?_
  refine J_sq (fun (r : Int32) (σ1 : q_H) => o = .inl (some (.int r)) ∧ σ' = σ1) (q_J.step (fun g => j_iconst (0 : Int32) rfl k32_0 (j_istore_n [some (.ref v0), some (.int (0 : Int32)), none, none, none, none] rfl rfl (Or.inr rfl) rfl (j_iconst (1 : Int32) rfl k32_1 (j_istore_n [some (.ref v0), some (.int (0 : Int32)), some (.int (1 : Int32)), none, none, none] rfl rfl (Or.inr rfl) rfl (j_aload_n rfl rfl (j_gfr rfl hx1 (j_iconst (0 : Int32) rfl k32_0 (j_iconst (0 : Int32) rfl k32_0 (j_bas rfl (by decide) hσ2 (g)))))))))) (l_Mo_reads_L11 hd v0 (fun _ _ h => h) q_FU (0 : Int32) (1 : Int32) σ2)) (fun r5 σ4 => ?_)
  exact J_some (fun h => h)
theorem t_Mo_reads {fo : Option Nat} {d : Nat} (hd : 3 ≤ d) {v0 : Nat} {σ σ1 : q_H} {r : Int32} (h : f_Mo_reads v0 σ = some (r, σ1)) : q_Rel (q_rf fo) q_Ms d 250 [.ref v0] σ (.inl (some (.int r))) σ1 := by
  obtain ⟨d, rfl⟩ : ∃ d1, d = d1 + 1 := ⟨d - 1, by omega⟩
  exact q_Rel.of rfl rfl (b_Mo_reads hd _ σ _ _ h ⟨rfl, rfl⟩)

set_option maxRecDepth 100000 in
theorem l_Mo_worth_L268 {fo : Option Nat} {d : Nat} (hd : 3 ≤ d + 1) {o : q_O} {σ' : q_H} {E : (Int32 × Int32) → q_H → Prop} (v0 : Nat) (v1 : Int32) (v3 : Int32) (hX : ∀ (t : Int32 × Int32) σ1, E (t) σ1 → q_G (q_rf fo) d m_Mo_worth o σ' 300 [some (.ref v0), some (.int v1), some (.int t.1), some (.int v3), none, some (.int t.2)] [] σ1)  : ∀ (n : Nat) (v2 : Int32) (v5 : Int32) (σ : q_H), q_J E (f_Mo_worth_L268 v0 v1 v3 n v2 v5 σ) (q_G (q_rf fo) d m_Mo_worth o σ' 268 [some (.ref v0), some (.int v1), some (.int v2), some (.int v3), none, some (.int v5)] [] σ)
  | 0, v2, v5, σ => J_none
  | n + 1, v2, v5, σ => by
    unfold f_Mo_worth_L268
    refine q_J.step (fun g => j_iload_n rfl rfl (g)) ?_
    refine J_ite (fun h1 => ?_) (fun h1 => ?_)
    · refine J_bind fun x2 hx2 => ?_
      refine J_bind fun x3 hx3 => ?_
      refine q_J.step (fun g => j_if_f rfl (cc_le_f h1) (j_aload_n rfl rfl (j_gfr rfl hx2 (j_iload_n rfl rfl (j_ial rfl hx3 (j_iconst (1 : Int32) rfl k32_1 (g))))))) ?_
      refine J_ite (fun h4 => ?_) (fun h4 => ?_)
      · refine q_J.step (fun g => j_icmp_f rfl (cc_ne_f h4) (j_iload rfl rfl (g))) ?_
        refine J_ite (fun h5 => ?_) (fun h5 => ?_)
        · exact q_J.step (fun g => j_if_f rfl (cc_ne_f h5) (j_iconst (1 : Int32) rfl k32_1 (j_goto rfl (j_istore [some (.ref v0), some (.int v1), some (.int v2), some (.int v3), none, some (.int (1 : Int32))] rfl rfl (Or.inr True.intro) rfl (j_iinc [some (.ref v0), some (.int v1), some (.int (v2 + (-1 : Int32))), some (.int v3), none, some (.int (1 : Int32))] (v2 + (-1 : Int32)) rfl rfl (by rw [k32_m1]) (Or.inr rfl) rfl (j_goto rfl (g))))))) (l_Mo_worth_L268 hd v0 v1 v3 hX n (v2 + (-1 : Int32)) (1 : Int32) σ)
        exact q_J.step (fun g => j_if_t rfl (cc_ne_t h5) (j_iconst (0 : Int32) rfl k32_0 (j_istore [some (.ref v0), some (.int v1), some (.int v2), some (.int v3), none, some (.int (0 : Int32))] rfl rfl (Or.inr True.intro) rfl (j_iinc [some (.ref v0), some (.int v1), some (.int (v2 + (-1 : Int32))), some (.int v3), none, some (.int (0 : Int32))] (v2 + (-1 : Int32)) rfl rfl (by rw [k32_m1]) (Or.inr rfl) rfl (j_goto rfl (g)))))) (l_Mo_worth_L268 hd v0 v1 v3 hX n (v2 + (-1 : Int32)) (0 : Int32) σ)
      exact J_some (fun h => j_icmp_t rfl (cc_ne_t h4) (hX _ _ h))
    exact J_some (fun h => j_if_t rfl (cc_le_t h1) (hX _ _ h))

set_option maxRecDepth 100000 in
theorem l_Mo_worth_L14 {fo : Option Nat} {d : Nat} (hd : 3 ≤ d + 1) {o : q_O} {σ' : q_H} {E : (Unit) → q_H → Prop} (v0 : Nat) (v1 : Int32) (hX : ∀ (t : Unit) σ1, E (t) σ1 → q_G (q_rf fo) d m_Mo_worth o σ' 335 [some (.ref v0), none, none, none, none, none] [] σ1)  : ∀ (n : Nat) (v2 : Int32) (v3 : Int32) (σ : q_H), q_J E (f_Mo_worth_L14 v0 v1 n v2 v3 σ) (q_G (q_rf fo) d m_Mo_worth o σ' 14 [some (.ref v0), some (.int v1), some (.int v2), some (.int v3), none, none] [] σ)
  | 0, v2, v3, σ => J_none
  | n + 1, v2, v3, σ => by
    unfold f_Mo_worth_L14
    refine J_bind fun x1 hx1 => ?_
    refine J_bind fun x2 hx2 => ?_
    refine q_J.step (fun g => j_iload_n rfl rfl (j_aload_n rfl rfl (j_gfr rfl hx1 (j_iload_n rfl rfl (j_ial rfl hx2 (g)))))) ?_
    refine J_ite (fun h3 => ?_) (fun h3 => ?_)
    · refine J_bind fun x4 hx4 => ?_
      refine J_bind fun x5 hx5 => ?_
      refine q_J.step (fun g => j_icmp_f rfl (cc_ge_f h3) (j_aload_n rfl rfl (j_gfr rfl hx4 (j_iload_n rfl rfl (j_ial rfl hx5 (j_istore [some (.ref v0), some (.int v1), some (.int v2), some (.int v3), some (.int x5), none] rfl rfl (Or.inr rfl) rfl (j_iload rfl rfl (j_bipush (28 : Int32) rfl kb_28 (g))))))))) ?_
      refine J_ite (fun h6 => ?_) (fun h6 => ?_)
      · refine J_bind fun x7 hx7 => ?_
        refine q_J.step (fun g => j_icmp_t rfl (cc_eq_t h6) (j_iinc [some (.ref v0), some (.int v1), some (.int (v2 + (1 : Int32))), some (.int v3), some (.int x5), none] (v2 + (1 : Int32)) rfl rfl (by rw [k32_1]) (Or.inr rfl) rfl (j_aload_n rfl rfl (j_gfr rfl hx7 (j_iload_n rfl rfl (j_iload rfl rfl (j_bipush (30 : Int32) rfl kb_30 (g)))))))) ?_
        refine J_sq (fun (t9 : Int32) (σ10 : q_H) => q_G (q_rf fo) d m_Mo_worth o σ' 66 [some (.ref v0), some (.int v1), some (.int (v2 + (1 : Int32))), some (.int v3), none, none] [.int t9, .int (v2 + (1 : Int32)), .ref x7] σ10) ?_ (fun t9 σ10 => ?_)
        · refine J_ite (fun h8 => ?_) (fun h8 => ?_)
          · exact J_some (fun h => j_icmp_f rfl (cc_ne_f h8) (j_iconst (1 : Int32) rfl k32_1 (j_goto rfl (j_weak (l := [some (.ref v0), some (.int v1), some (.int (v2 + (1 : Int32))), some (.int v3), none, none]) (And.intro (Or.inr rfl) (And.intro (Or.inr rfl) (And.intro (Or.inr rfl) (And.intro (Or.inr rfl) (And.intro (Or.inl rfl) (And.intro (Or.inr rfl) True.intro)))))) (h)))))
          exact J_some (fun h => j_icmp_t rfl (cc_ne_t h8) (j_iconst (0 : Int32) rfl k32_0 (j_weak (l := [some (.ref v0), some (.int v1), some (.int (v2 + (1 : Int32))), some (.int v3), none, none]) (And.intro (Or.inr rfl) (And.intro (Or.inr rfl) (And.intro (Or.inr rfl) (And.intro (Or.inr rfl) (And.intro (Or.inl rfl) (And.intro (Or.inr rfl) True.intro)))))) (h))))
        refine J_bind fun σ11 hσ11 => ?_
        refine J_bind fun w12 hw12 => ?_
        refine J_cl fun _ σ13 hσ13 => ?_
        exact q_J.step (fun g => j_ias rfl hσ11 (j_aload_n rfl rfl (j_iload_n rfl rfl (j_v0 [.ref v0, .int (v2 + (1 : Int32))] [] rfl rfl rfl rfl rfl rfl hw12 (Or.inl rfl) (t_Mo_opens (by omega) hσ13) (j_goto rfl (j_iinc [some (.ref v0), some (.int v1), some (.int (v2 + (1 : Int32))), some (.int (v3 + (1 : Int32))), none, none] (v3 + (1 : Int32)) rfl rfl (by rw [k32_1]) (Or.inr rfl) rfl (j_goto rfl (g)))))))) (l_Mo_worth_L14 hd v0 v1 hX n (v2 + (1 : Int32)) (v3 + (1 : Int32)) σ13)
      refine q_J.step (fun g => j_icmp_f rfl (cc_eq_f h6) (j_iload rfl rfl (j_bipush (30 : Int32) rfl kb_30 (g)))) ?_
      refine J_ite (fun h15 => ?_) (fun h15 => ?_)
      · refine J_bind fun x16 hx16 => ?_
        refine q_J.step (fun g => j_icmp_f rfl (cc_ne_f h15) (j_iinc [some (.ref v0), some (.int v1), some (.int (v2 + (1 : Int32))), some (.int v3), some (.int x5), none] (v2 + (1 : Int32)) rfl rfl (by rw [k32_1]) (Or.inr rfl) rfl (j_aload_n rfl rfl (j_gfr rfl hx16 (j_iload_n rfl rfl (j_iload rfl rfl (j_bipush (30 : Int32) rfl kb_30 (g)))))))) ?_
        refine J_sq (fun (t18 : Int32) (σ19 : q_H) => q_G (q_rf fo) d m_Mo_worth o σ' 66 [some (.ref v0), some (.int v1), some (.int (v2 + (1 : Int32))), some (.int v3), none, none] [.int t18, .int (v2 + (1 : Int32)), .ref x16] σ19) ?_ (fun t18 σ19 => ?_)
        · refine J_ite (fun h17 => ?_) (fun h17 => ?_)
          · exact J_some (fun h => j_icmp_f rfl (cc_ne_f h17) (j_iconst (1 : Int32) rfl k32_1 (j_goto rfl (j_weak (l := [some (.ref v0), some (.int v1), some (.int (v2 + (1 : Int32))), some (.int v3), none, none]) (And.intro (Or.inr rfl) (And.intro (Or.inr rfl) (And.intro (Or.inr rfl) (And.intro (Or.inr rfl) (And.intro (Or.inl rfl) (And.intro (Or.inr rfl) True.intro)))))) (h)))))
          exact J_some (fun h => j_icmp_t rfl (cc_ne_t h17) (j_iconst (0 : Int32) rfl k32_0 (j_weak (l := [some (.ref v0), some (.int v1), some (.int (v2 + (1 : Int32))), some (.int v3), none, none]) (And.intro (Or.inr rfl) (And.intro (Or.inr rfl) (And.intro (Or.inr rfl) (And.intro (Or.inr rfl) (And.intro (Or.inl rfl) (And.intro (Or.inr rfl) True.intro)))))) (h))))
        refine J_bind fun σ20 hσ20 => ?_
        refine J_bind fun w21 hw21 => ?_
        refine J_cl fun _ σ22 hσ22 => ?_
        exact q_J.step (fun g => j_ias rfl hσ20 (j_aload_n rfl rfl (j_iload_n rfl rfl (j_v0 [.ref v0, .int (v2 + (1 : Int32))] [] rfl rfl rfl rfl rfl rfl hw21 (Or.inl rfl) (t_Mo_opens (by omega) hσ22) (j_goto rfl (j_iinc [some (.ref v0), some (.int v1), some (.int (v2 + (1 : Int32))), some (.int (v3 + (1 : Int32))), none, none] (v3 + (1 : Int32)) rfl rfl (by rw [k32_1]) (Or.inr rfl) rfl (j_goto rfl (g)))))))) (l_Mo_worth_L14 hd v0 v1 hX n (v2 + (1 : Int32)) (v3 + (1 : Int32)) σ22)
      refine q_J.step (fun g => j_icmp_t rfl (cc_ne_t h15) (j_iload rfl rfl (j_bipush (20 : Int32) rfl kb_20 (g)))) ?_
      refine J_ite (fun h24 => ?_) (fun h24 => ?_)
      · refine J_bind fun w25 hw25 => ?_
        refine J_cl fun _ σ26 hσ26 => ?_
        refine J_bind fun x28 hx28 => ?_
        refine J_bind fun σ29 hσ29 => ?_
        exact q_J.step (fun g => j_icmp_t rfl (cc_eq_t h24) (j_aload_n rfl rfl (j_iload_n rfl rfl (j_v0 [.ref v0, .int v2] [] rfl rfl rfl rfl rfl rfl hw25 (Or.inl rfl) (t_Mo_sums (by omega) hσ26) (j_aload_n rfl rfl (j_gfr rfl hx28 (j_iload_n rfl rfl (j_iload rfl rfl (j_ias rfl hσ29 (j_goto rfl (j_iinc [some (.ref v0), some (.int v1), some (.int v2), some (.int (v3 + (1 : Int32))), some (.int x5), none] (v3 + (1 : Int32)) rfl rfl (by rw [k32_1]) (Or.inr rfl) rfl (j_goto rfl (j_weak (l := [some (.ref v0), some (.int v1), some (.int v2), some (.int (v3 + (1 : Int32))), none, none]) (And.intro (Or.inr rfl) (And.intro (Or.inr rfl) (And.intro (Or.inr rfl) (And.intro (Or.inr rfl) (And.intro (Or.inl rfl) (And.intro (Or.inr rfl) True.intro)))))) (g)))))))))))))) (l_Mo_worth_L14 hd v0 v1 hX n v2 (v3 + (1 : Int32)) σ29)
      refine q_J.step (fun g => j_icmp_f rfl (cc_eq_f h24) (j_iload rfl rfl (j_bipush (21 : Int32) rfl kb_21 (g)))) ?_
      refine J_ite (fun h30 => ?_) (fun h30 => ?_)
      · refine J_bind fun w31 hw31 => ?_
        refine J_cl fun _ σ32 hσ32 => ?_
        refine J_bind fun x34 hx34 => ?_
        refine J_bind fun σ35 hσ35 => ?_
        exact q_J.step (fun g => j_icmp_f rfl (cc_ne_f h30) (j_aload_n rfl rfl (j_iload_n rfl rfl (j_v0 [.ref v0, .int v2] [] rfl rfl rfl rfl rfl rfl hw31 (Or.inl rfl) (t_Mo_sums (by omega) hσ32) (j_aload_n rfl rfl (j_gfr rfl hx34 (j_iload_n rfl rfl (j_iload rfl rfl (j_ias rfl hσ35 (j_goto rfl (j_iinc [some (.ref v0), some (.int v1), some (.int v2), some (.int (v3 + (1 : Int32))), some (.int x5), none] (v3 + (1 : Int32)) rfl rfl (by rw [k32_1]) (Or.inr rfl) rfl (j_goto rfl (j_weak (l := [some (.ref v0), some (.int v1), some (.int v2), some (.int (v3 + (1 : Int32))), none, none]) (And.intro (Or.inr rfl) (And.intro (Or.inr rfl) (And.intro (Or.inr rfl) (And.intro (Or.inr rfl) (And.intro (Or.inl rfl) (And.intro (Or.inr rfl) True.intro)))))) (g)))))))))))))) (l_Mo_worth_L14 hd v0 v1 hX n v2 (v3 + (1 : Int32)) σ35)
      refine q_J.step (fun g => j_icmp_t rfl (cc_ne_t h30) (j_iload rfl rfl (j_bipush (22 : Int32) rfl kb_22 (g)))) ?_
      refine J_ite (fun h36 => ?_) (fun h36 => ?_)
      · refine J_bind fun x37 hx37 => ?_
        refine J_bind fun σ38 hσ38 => ?_
        exact q_J.step (fun g => j_icmp_f rfl (cc_ne_f h36) (j_aload_n rfl rfl (j_gfr rfl hx37 (j_iload_n rfl rfl (j_iload rfl rfl (j_ias rfl hσ38 (j_goto rfl (j_iinc [some (.ref v0), some (.int v1), some (.int v2), some (.int (v3 + (1 : Int32))), some (.int x5), none] (v3 + (1 : Int32)) rfl rfl (by rw [k32_1]) (Or.inr rfl) rfl (j_goto rfl (j_weak (l := [some (.ref v0), some (.int v1), some (.int v2), some (.int (v3 + (1 : Int32))), none, none]) (And.intro (Or.inr rfl) (And.intro (Or.inr rfl) (And.intro (Or.inr rfl) (And.intro (Or.inr rfl) (And.intro (Or.inl rfl) (And.intro (Or.inr rfl) True.intro)))))) (g))))))))))) (l_Mo_worth_L14 hd v0 v1 hX n v2 (v3 + (1 : Int32)) σ38)
      refine q_J.step (fun g => j_icmp_t rfl (cc_ne_t h36) (j_iload rfl rfl (j_bipush (24 : Int32) rfl kb_24 (g)))) ?_
      refine J_ite (fun h39 => ?_) (fun h39 => ?_)
      · refine J_bind fun w40 hw40 => ?_
        refine J_cl fun _ σ41 hσ41 => ?_
        refine J_bind fun x43 hx43 => ?_
        refine J_bind fun x44 hx44 => ?_
        refine J_bind fun x45 hx45 => ?_
        refine J_bind fun σ46 hσ46 => ?_
        refine J_bind fun x47 hx47 => ?_
        refine J_bind fun σ48 hσ48 => ?_
        refine J_bind fun x49 hx49 => ?_
        refine J_bind fun σ50 hσ50 => ?_
        refine J_bind fun x51 hx51 => ?_
        refine J_bind fun σ52 hσ52 => ?_
        exact q_J.step (fun g => j_icmp_t rfl (cc_eq_t h39) (j_aload_n rfl rfl (j_iload_n rfl rfl (j_v0 [.ref v0, .int v2] [] rfl rfl rfl rfl rfl rfl hw40 (Or.inl rfl) (t_Mo_sums (by omega) hσ41) (j_aload_n rfl rfl (j_gfr rfl hx43 (j_iload_n rfl rfl (j_aload_n rfl rfl (j_gfr rfl hx44 (j_iload_n rfl rfl (j_ial rfl hx45 (j_ias rfl hσ46 (j_aload_n rfl rfl (j_gfr rfl hx47 (j_iload_n rfl rfl (j_iload rfl rfl (j_ias rfl hσ48 (j_aload_n rfl rfl (j_gfr rfl hx49 (j_iload_n rfl rfl (j_iconst (0 : Int32) rfl k32_0 (j_ias rfl hσ50 (j_aload_n rfl rfl (j_gfr rfl hx51 (j_iload_n rfl rfl (j_bipush (20 : Int32) rfl kb_20 (j_ias rfl hσ52 (j_goto rfl (j_iinc [some (.ref v0), some (.int v1), some (.int v2), some (.int (v3 + (1 : Int32))), some (.int x5), none] (v3 + (1 : Int32)) rfl rfl (by rw [k32_1]) (Or.inr rfl) rfl (j_goto rfl (j_weak (l := [some (.ref v0), some (.int v1), some (.int v2), some (.int (v3 + (1 : Int32))), none, none]) (And.intro (Or.inr rfl) (And.intro (Or.inr rfl) (And.intro (Or.inr rfl) (And.intro (Or.inr rfl) (And.intro (Or.inl rfl) (And.intro (Or.inr rfl) True.intro)))))) (g)))))))))))))))))))))))))))))))) (l_Mo_worth_L14 hd v0 v1 hX n v2 (v3 + (1 : Int32)) σ52)
      refine q_J.step (fun g => j_icmp_f rfl (cc_eq_f h39) (j_iload rfl rfl (j_bipush (25 : Int32) rfl kb_25 (g)))) ?_
      refine J_ite (fun h53 => ?_) (fun h53 => ?_)
      · refine J_bind fun w54 hw54 => ?_
        refine J_cl fun _ σ55 hσ55 => ?_
        refine J_bind fun x57 hx57 => ?_
        refine J_bind fun x58 hx58 => ?_
        refine J_bind fun x59 hx59 => ?_
        refine J_bind fun σ60 hσ60 => ?_
        refine J_bind fun x61 hx61 => ?_
        refine J_bind fun σ62 hσ62 => ?_
        refine J_bind fun x63 hx63 => ?_
        refine J_bind fun σ64 hσ64 => ?_
        refine J_bind fun x65 hx65 => ?_
        refine J_bind fun σ66 hσ66 => ?_
        exact q_J.step (fun g => j_icmp_f rfl (cc_ne_f h53) (j_aload_n rfl rfl (j_iload_n rfl rfl (j_v0 [.ref v0, .int v2] [] rfl rfl rfl rfl rfl rfl hw54 (Or.inl rfl) (t_Mo_sums (by omega) hσ55) (j_aload_n rfl rfl (j_gfr rfl hx57 (j_iload_n rfl rfl (j_aload_n rfl rfl (j_gfr rfl hx58 (j_iload_n rfl rfl (j_ial rfl hx59 (j_ias rfl hσ60 (j_aload_n rfl rfl (j_gfr rfl hx61 (j_iload_n rfl rfl (j_iload rfl rfl (j_ias rfl hσ62 (j_aload_n rfl rfl (j_gfr rfl hx63 (j_iload_n rfl rfl (j_iconst (0 : Int32) rfl k32_0 (j_ias rfl hσ64 (j_aload_n rfl rfl (j_gfr rfl hx65 (j_iload_n rfl rfl (j_bipush (20 : Int32) rfl kb_20 (j_ias rfl hσ66 (j_goto rfl (j_iinc [some (.ref v0), some (.int v1), some (.int v2), some (.int (v3 + (1 : Int32))), some (.int x5), none] (v3 + (1 : Int32)) rfl rfl (by rw [k32_1]) (Or.inr rfl) rfl (j_goto rfl (j_weak (l := [some (.ref v0), some (.int v1), some (.int v2), some (.int (v3 + (1 : Int32))), none, none]) (And.intro (Or.inr rfl) (And.intro (Or.inr rfl) (And.intro (Or.inr rfl) (And.intro (Or.inr rfl) (And.intro (Or.inl rfl) (And.intro (Or.inr rfl) True.intro)))))) (g)))))))))))))))))))))))))))))))) (l_Mo_worth_L14 hd v0 v1 hX n v2 (v3 + (1 : Int32)) σ66)
      refine q_J.step (fun g => j_icmp_t rfl (cc_ne_t h53) (j_iload rfl rfl (j_bipush (26 : Int32) rfl kb_26 (g)))) ?_
      refine J_ite (fun h67 => ?_) (fun h67 => ?_)
      · refine J_bind fun w68 hw68 => ?_
        refine J_cl fun _ σ69 hσ69 => ?_
        refine J_bind fun x71 hx71 => ?_
        refine J_bind fun σ72 hσ72 => ?_
        exact q_J.step (fun g => j_icmp_t rfl (cc_eq_t h67) (j_aload_n rfl rfl (j_iload_n rfl rfl (j_v0 [.ref v0, .int v2] [] rfl rfl rfl rfl rfl rfl hw68 (Or.inl rfl) (t_Mo_tests (by omega) hσ69) (j_aload_n rfl rfl (j_gfr rfl hx71 (j_iload_n rfl rfl (j_iload rfl rfl (j_ias rfl hσ72 (j_goto rfl (j_iinc [some (.ref v0), some (.int v1), some (.int v2), some (.int (v3 + (1 : Int32))), some (.int x5), none] (v3 + (1 : Int32)) rfl rfl (by rw [k32_1]) (Or.inr rfl) rfl (j_goto rfl (j_weak (l := [some (.ref v0), some (.int v1), some (.int v2), some (.int (v3 + (1 : Int32))), none, none]) (And.intro (Or.inr rfl) (And.intro (Or.inr rfl) (And.intro (Or.inr rfl) (And.intro (Or.inr rfl) (And.intro (Or.inl rfl) (And.intro (Or.inr rfl) True.intro)))))) (g)))))))))))))) (l_Mo_worth_L14 hd v0 v1 hX n v2 (v3 + (1 : Int32)) σ72)
      refine q_J.step (fun g => j_icmp_f rfl (cc_eq_f h67) (j_iload rfl rfl (j_bipush (27 : Int32) rfl kb_27 (g)))) ?_
      refine J_ite (fun h73 => ?_) (fun h73 => ?_)
      · refine J_bind fun w74 hw74 => ?_
        refine J_cl fun _ σ75 hσ75 => ?_
        refine J_bind fun x77 hx77 => ?_
        refine J_bind fun σ78 hσ78 => ?_
        exact q_J.step (fun g => j_icmp_f rfl (cc_ne_f h73) (j_aload_n rfl rfl (j_iload_n rfl rfl (j_v0 [.ref v0, .int v2] [] rfl rfl rfl rfl rfl rfl hw74 (Or.inl rfl) (t_Mo_tests (by omega) hσ75) (j_aload_n rfl rfl (j_gfr rfl hx77 (j_iload_n rfl rfl (j_iload rfl rfl (j_ias rfl hσ78 (j_goto rfl (j_iinc [some (.ref v0), some (.int v1), some (.int v2), some (.int (v3 + (1 : Int32))), some (.int x5), none] (v3 + (1 : Int32)) rfl rfl (by rw [k32_1]) (Or.inr rfl) rfl (j_goto rfl (j_weak (l := [some (.ref v0), some (.int v1), some (.int v2), some (.int (v3 + (1 : Int32))), none, none]) (And.intro (Or.inr rfl) (And.intro (Or.inr rfl) (And.intro (Or.inr rfl) (And.intro (Or.inr rfl) (And.intro (Or.inl rfl) (And.intro (Or.inr rfl) True.intro)))))) (g)))))))))))))) (l_Mo_worth_L14 hd v0 v1 hX n v2 (v3 + (1 : Int32)) σ78)
      refine q_J.step (fun g => j_icmp_t rfl (cc_ne_t h73) (j_iload rfl rfl (j_bipush (100 : Int32) rfl kb_100 (g)))) ?_
      refine J_sq (fun (t83 : Int32) (σ84 : q_H) => q_G (q_rf fo) d m_Mo_worth o σ' 243 [some (.ref v0), some (.int v1), some (.int v2), some (.int v3), some (.int x5), none] [.int t83] σ84) ?_ (fun t83 σ84 => ?_)
      · refine J_ite (fun h79 => ?_) (fun h79 => ?_)
        · refine q_J.step (fun g => j_icmp_t rfl (cc_lt_t h79) (j_iload rfl rfl (j_bipush (20 : Int32) rfl kb_20 (g)))) ?_
          refine J_ite (fun h80 => ?_) (fun h80 => ?_)
          · refine J_bind fun x81 hx81 => ?_
            refine J_bind fun x82 hx82 => ?_
            exact J_some (fun h => j_icmp_f rfl (cc_ge_f h80) (j_aload_n rfl rfl (j_gfr rfl hx81 (j_iload rfl rfl (j_ial rfl hx82 (j_goto rfl (h)))))))
          exact J_some (fun h => j_icmp_t rfl (cc_ge_t h80) (j_iconst (0 : Int32) rfl k32_0 (h)))
        exact J_some (fun h => j_icmp_f rfl (cc_lt_f h79) (j_iload rfl rfl (j_bipush (100 : Int32) rfl kb_100 (j_isub rfl (j_goto rfl (h))))))
      refine q_J.step (fun g => j_istore [some (.ref v0), some (.int v1), some (.int v2), some (.int v3), some (.int x5), some (.int t83)] rfl rfl (Or.inr rfl) rfl (j_iload rfl rfl (j_bipush (29 : Int32) rfl kb_29 (g)))) ?_
      refine J_sq (fun (t91 : Int32 × Int32) (σ92 : q_H) => q_G (q_rf fo) d m_Mo_worth o σ' 268 [some (.ref v0), some (.int v1), some (.int t91.1), some (.int v3), none, some (.int t91.2)] [] σ92) ?_ (fun t91 σ92 => ?_)
      · refine J_ite (fun h85 => ?_) (fun h85 => ?_)
        · refine J_bind fun w86 hw86 => ?_
          refine J_cl fun _ σ87 hσ87 => ?_
          refine J_bind fun x89 hx89 => ?_
          refine J_bind fun x90 hx90 => ?_
          exact J_some (fun h => j_icmp_f rfl (cc_ne_f h85) (j_aload_n rfl rfl (j_iload_n rfl rfl (j_v0 [.ref v0, .int v2] [] rfl rfl rfl rfl rfl rfl hw86 (Or.inl rfl) (t_Mo_tests (by omega) hσ87) (j_aload_n rfl rfl (j_gfr rfl hx89 (j_iload_n rfl rfl (j_ial rfl hx90 (j_istore [some (.ref v0), some (.int v1), some (.int v2), some (.int v3), some (.int x5), some (.int x90)] rfl rfl (Or.inr rfl) rfl (j_iinc [some (.ref v0), some (.int v1), some (.int (v2 + (-1 : Int32))), some (.int v3), some (.int x5), some (.int x90)] (v2 + (-1 : Int32)) rfl rfl (by rw [k32_m1]) (Or.inr rfl) rfl (j_weak (l := [some (.ref v0), some (.int v1), some (.int (v2 + (-1 : Int32))), some (.int v3), none, some (.int x90)]) (And.intro (Or.inr rfl) (And.intro (Or.inr rfl) (And.intro (Or.inr rfl) (And.intro (Or.inr rfl) (And.intro (Or.inl rfl) (And.intro (Or.inr rfl) True.intro)))))) (h))))))))))))
        exact J_some (fun h => j_icmp_t rfl (cc_ne_t h85) (j_weak (l := [some (.ref v0), some (.int v1), some (.int v2), some (.int v3), none, some (.int t83)]) (And.intro (Or.inr rfl) (And.intro (Or.inr rfl) (And.intro (Or.inr rfl) (And.intro (Or.inr rfl) (And.intro (Or.inl rfl) (And.intro (Or.inr rfl) True.intro)))))) (h)))
      refine J_sq (fun (t93 : Int32 × Int32) (σ94 : q_H) => q_G (q_rf fo) d m_Mo_worth o σ' 300 [some (.ref v0), some (.int v1), some (.int t93.1), some (.int v3), none, some (.int t93.2)] [] σ94) (l_Mo_worth_L268 hd v0 v1 v3 (fun _ _ h => h) q_FU t91.1 t91.2 σ92) (fun t93 σ94 => ?_)
      refine J_bind fun x95 hx95 => ?_
      refine J_bind fun x96 hx96 => ?_
      refine J_bind fun x97 hx97 => ?_
      refine q_J.step (fun g => j_aload_n rfl rfl (j_gfr rfl hx95 (j_iload_n rfl rfl (j_aload_n rfl rfl (j_gfr rfl hx96 (j_iload_n rfl rfl (j_ial rfl hx97 (g)))))))) ?_
      refine J_ite (fun h98 => ?_) (fun h98 => ?_)
      · refine J_bind fun σ99 hσ99 => ?_
        exact q_J.step (fun g => j_if_f rfl (cc_ne_f h98) (j_iload rfl rfl (j_goto rfl (j_ias rfl hσ99 (j_iinc [some (.ref v0), some (.int v1), some (.int t93.1), some (.int (v3 + (1 : Int32))), none, some (.int t93.2)] (v3 + (1 : Int32)) rfl rfl (by rw [k32_1]) (Or.inr rfl) rfl (j_goto rfl (j_weak (l := [some (.ref v0), some (.int v1), some (.int t93.1), some (.int (v3 + (1 : Int32))), none, none]) (And.intro (Or.inr rfl) (And.intro (Or.inr rfl) (And.intro (Or.inr rfl) (And.intro (Or.inr rfl) (And.intro (Or.inr rfl) (And.intro (Or.inl rfl) True.intro)))))) (g)))))))) (l_Mo_worth_L14 hd v0 v1 hX n t93.1 (v3 + (1 : Int32)) σ99)
      refine J_bind fun x100 hx100 => ?_
      refine J_bind fun x101 hx101 => ?_
      refine J_bind fun σ102 hσ102 => ?_
      exact q_J.step (fun g => j_if_t rfl (cc_ne_t h98) (j_aload_n rfl rfl (j_gfr rfl hx100 (j_iload_n rfl rfl (j_ial rfl hx101 (j_iload rfl rfl (j_imul rfl (j_ias rfl hσ102 (j_iinc [some (.ref v0), some (.int v1), some (.int t93.1), some (.int (v3 + (1 : Int32))), none, some (.int t93.2)] (v3 + (1 : Int32)) rfl rfl (by rw [k32_1]) (Or.inr rfl) rfl (j_goto rfl (j_weak (l := [some (.ref v0), some (.int v1), some (.int t93.1), some (.int (v3 + (1 : Int32))), none, none]) (And.intro (Or.inr rfl) (And.intro (Or.inr rfl) (And.intro (Or.inr rfl) (And.intro (Or.inr rfl) (And.intro (Or.inr rfl) (And.intro (Or.inl rfl) True.intro)))))) (g)))))))))))) (l_Mo_worth_L14 hd v0 v1 hX n t93.1 (v3 + (1 : Int32)) σ102)
    exact J_some (fun h => j_icmp_t rfl (cc_ge_t h3) (j_weak (l := [some (.ref v0), none, none, none, none, none]) (And.intro (Or.inr rfl) (And.intro (Or.inl rfl) (And.intro (Or.inl rfl) (And.intro (Or.inl rfl) (And.intro (Or.inr rfl) (And.intro (Or.inr rfl) True.intro)))))) (hX _ _ h)))

set_option maxRecDepth 100000 in
theorem b_Mo_worth {fo : Option Nat} {d : Nat} (hd : 3 ≤ d + 1) {o : q_O} {σ' : q_H} (v0 : Nat) (v1 : Int32) (σ : q_H) : q_J (fun (r : Int32) (σ1 : q_H) => o = .inl (some (.int r)) ∧ σ' = σ1) (f_Mo_worth v0 v1 σ) (q_G (q_rf fo) d m_Mo_worth o σ' 0 [some (.ref v0), some (.int v1), none, none, none, none] [] σ) := by
  unfold f_Mo_worth
  refine J_bind fun w1 hw1 => ?_
  refine J_cl fun _ σ2 hσ2 => ?_
  refine J_bind fun x4 hx4 => ?_
  refine J_bind fun x5 hx5 => ?_
  refine J_sq (fun (t6 : Unit) (σ7 : q_H) => q_G (q_rf fo) d m_Mo_worth o σ' 335 [some (.ref v0), none, none, none, none, none] [] σ7) (q_J.step (fun g => j_iconst (0 : Int32) rfl k32_0 (j_istore_n [some (.ref v0), some (.int v1), some (.int (0 : Int32)), none, none, none] rfl rfl (Or.inr rfl) rfl (j_aload_n rfl rfl (j_iconst (0 : Int32) rfl k32_0 (j_v0 [.ref v0, .int (0 : Int32)] [] rfl rfl rfl rfl rfl rfl hw1 (Or.inl rfl) (t_Mo_opens (by omega) hσ2) (j_aload_n rfl rfl (j_gfr rfl hx4 (j_iload_n rfl rfl (j_ial rfl hx5 (j_istore_n [some (.ref v0), some (.int v1), some (.int (0 : Int32)), some (.int x5), none, none] rfl rfl (Or.inr rfl) rfl (g))))))))))) (l_Mo_worth_L14 hd v0 v1 (fun _ _ h => h) q_FU (0 : Int32) x5 σ2)) (fun t6 σ7 => ?_)
  refine J_bind fun w8 hw8 => ?_
  refine J_cl fun _ σ9 hσ9 => ?_
  refine J_bind fun x11 hx11 => ?_
  refine J_bind fun x12 hx12 => ?_
  exact J_some (fun h => j_aload_n rfl rfl (j_iconst (0 : Int32) rfl k32_0 (j_v0 [.ref v0, .int (0 : Int32)] [] rfl rfl rfl rfl rfl rfl hw8 (Or.inl rfl) (t_Mo_tests (by omega) hσ9) (j_aload_n rfl rfl (j_gfr rfl hx11 (j_iconst (0 : Int32) rfl k32_0 (j_ial rfl hx12 (j_iret rfl rfl h))))))))
theorem t_Mo_worth {fo : Option Nat} {d : Nat} (hd : 3 ≤ d) {v0 : Nat} {v1 : Int32} {σ σ1 : q_H} {r : Int32} (h : f_Mo_worth v0 v1 σ = some (r, σ1)) : q_Rel (q_rf fo) q_Ms d 255 [.ref v0, .int v1] σ (.inl (some (.int r))) σ1 := by
  obtain ⟨d, rfl⟩ : ∃ d1, d = d1 + 1 := ⟨d - 1, by omega⟩
  exact q_Rel.of rfl rfl (b_Mo_worth hd _ _ σ _ _ h ⟨rfl, rfl⟩)

set_option maxRecDepth 100000 in
theorem l_Mo_runs_L42 {fo : Option Nat} {d : Nat} (hd : 3 ≤ d + 1) {o : q_O} {σ' : q_H} {E : (Unit) → q_H → Prop} (v0 : Nat) (v2 : Int32) (v3 : Int32) (v4 : Int32) (v5 : Int32) (v6 : Int32) (v7 : Int32) (hX : ∀ (t : Unit) σ1, E (t) σ1 → q_G (q_rf fo) d m_Mo_runs o σ' 126 [some (.ref v0), none, some (.int v2), some (.int v3), some (.int v4), some (.int v5), some (.int v6), some (.int v7), none, none] [] σ1)  : ∀ (n : Nat) (v8 : Int32) (v9 : Int32) (σ : q_H), q_J E (f_Mo_runs_L42 v0 v2 v3 v4 v5 v6 v7 n v8 v9 σ) (q_G (q_rf fo) d m_Mo_runs o σ' 42 [some (.ref v0), none, some (.int v2), some (.int v3), some (.int v4), some (.int v5), some (.int v6), some (.int v7), some (.int v8), some (.int v9)] [] σ)
  | 0, v8, v9, σ => J_none
  | n + 1, v8, v9, σ => by
    unfold f_Mo_runs_L42
    refine q_J.step (fun g => j_iload rfl rfl (j_iload rfl rfl (g))) ?_
    refine J_ite (fun h1 => ?_) (fun h1 => ?_)
    · refine J_bind fun x2 hx2 => ?_
      refine J_bind fun w3 hw3 => ?_
      refine J_cl fun x5 σ4 hσ4 => ?_
      refine q_J.step (fun g => j_icmp_f rfl (cc_ge_f h1) (j_aload_n rfl rfl (j_gfr rfl hx2 (j_iload rfl rfl (j_aload_n rfl rfl (j_iconst (2 : Int32) rfl k32_2 (j_v1 [.ref v0, .int (2 : Int32)] [.int v9, .ref x2] rfl rfl rfl rfl rfl rfl hw3 (Or.inl rfl) (t_Mo_draws (by omega) hσ4) (j_iconst (1 : Int32) rfl k32_1 (g))))))))) ?_
      refine J_sq (fun (t7 : Int32) (σ8 : q_H) => q_G (q_rf fo) d m_Mo_runs o σ' 69 [some (.ref v0), none, some (.int v2), some (.int v3), some (.int v4), some (.int v5), some (.int v6), some (.int v7), some (.int v8), some (.int v9)] [.int t7, .int v9, .ref x2] σ8) ?_ (fun t7 σ8 => ?_)
      · refine J_ite (fun h6 => ?_) (fun h6 => ?_)
        · exact J_some (fun h => j_icmp_f rfl (cc_ne_f h6) (j_iconst (1 : Int32) rfl k32_1 (j_goto rfl (h))))
        exact J_some (fun h => j_icmp_t rfl (cc_ne_t h6) (j_iconst (0 : Int32) rfl k32_0 (h)))
      refine J_ite (fun _ => J_none) (fun h10 => ?_)
      refine J_bind fun σ9 hσ9 => ?_
      refine J_bind fun w11 hw11 => ?_
      refine J_cl fun x13 σ12 hσ12 => ?_
      refine J_bind fun x14 hx14 => ?_
      refine J_bind fun σ15 hσ15 => ?_
      refine J_bind fun x16 hx16 => ?_
      refine J_bind fun w17 hw17 => ?_
      refine J_cl fun x19 σ18 hσ18 => ?_
      refine J_bind fun w20 hw20 => ?_
      refine J_cl fun x22 σ21 hσ21 => ?_
      refine q_J.step (fun g => j_bas rfl (Decidable.not_not.mp h10) hσ9 (j_iload rfl rfl (j_aload_n rfl rfl (j_iconst (5 : Int32) rfl k32_5 (j_v1 [.ref v0, .int (5 : Int32)] [.int v8] rfl rfl rfl rfl rfl rfl hw11 (Or.inl rfl) (t_Mo_draws (by omega) hσ12) (j_iconst (1 : Int32) rfl k32_1 (j_iadd rfl (j_isub rfl (j_istore [some (.ref v0), none, some (.int v2), some (.int v3), some (.int v4), some (.int v5), some (.int v6), some (.int v7), some (.int (v8 - (x13 + (1 : Int32)))), some (.int v9)] rfl rfl (Or.inr rfl) rfl (j_aload_n rfl rfl (j_gfr rfl hx14 (j_iload rfl rfl (j_iload rfl rfl (j_ias rfl hσ15 (g))))))))))))))) ?_
      refine q_J.step (fun g => j_aload_n rfl rfl (j_gfr rfl hx16 (j_iload rfl rfl (j_aload_n rfl rfl (j_sipush (5000 : Int32) rfl ks_5000 (j_v1 [.ref v0, .int (5000 : Int32)] [.int v9, .ref x16] rfl rfl rfl rfl rfl rfl hw17 (Or.inl rfl) (t_Mo_draws (by omega) hσ18) (j_aload_n rfl rfl (j_iload_n rfl rfl (j_iload rfl rfl (j_v1 [.ref v0, .int v3, .int (v8 - (x13 + (1 : Int32)))] [.int x19, .int v9, .ref x16] rfl rfl rfl rfl rfl rfl hw20 (Or.inl rfl) (t_Mo_atAge (by omega) hσ21) (g))))))))))) ?_
      refine J_ite (fun h23 => ?_) (fun h23 => ?_)
      · refine J_bind fun σ24 hσ24 => ?_
        exact q_J.step (fun g => j_icmp_f rfl (cc_ge_f h23) (j_iconst (1 : Int32) rfl k32_1 (j_goto rfl (j_bas rfl (by decide) hσ24 (j_iinc [some (.ref v0), none, some (.int v2), some (.int v3), some (.int v4), some (.int v5), some (.int v6), some (.int v7), some (.int (v8 - (x13 + (1 : Int32)))), some (.int (v9 + (1 : Int32)))] (v9 + (1 : Int32)) rfl rfl (by rw [k32_1]) (Or.inr rfl) rfl (j_goto rfl (g))))))) (l_Mo_runs_L42 hd v0 v2 v3 v4 v5 v6 v7 hX n (v8 - (x13 + (1 : Int32))) (v9 + (1 : Int32)) σ24)
      refine J_bind fun σ25 hσ25 => ?_
      exact q_J.step (fun g => j_icmp_t rfl (cc_ge_t h23) (j_iconst (0 : Int32) rfl k32_0 (j_bas rfl (by decide) hσ25 (j_iinc [some (.ref v0), none, some (.int v2), some (.int v3), some (.int v4), some (.int v5), some (.int v6), some (.int v7), some (.int (v8 - (x13 + (1 : Int32)))), some (.int (v9 + (1 : Int32)))] (v9 + (1 : Int32)) rfl rfl (by rw [k32_1]) (Or.inr rfl) rfl (j_goto rfl (g)))))) (l_Mo_runs_L42 hd v0 v2 v3 v4 v5 v6 v7 hX n (v8 - (x13 + (1 : Int32))) (v9 + (1 : Int32)) σ25)
    exact J_some (fun h => j_icmp_t rfl (cc_ge_t h1) (j_weak (l := [some (.ref v0), none, some (.int v2), some (.int v3), some (.int v4), some (.int v5), some (.int v6), some (.int v7), none, none]) (And.intro (Or.inr rfl) (And.intro (Or.inr rfl) (And.intro (Or.inr rfl) (And.intro (Or.inr rfl) (And.intro (Or.inr rfl) (And.intro (Or.inr rfl) (And.intro (Or.inr rfl) (And.intro (Or.inr rfl) (And.intro (Or.inl rfl) (And.intro (Or.inl rfl) True.intro)))))))))) (hX _ _ h)))

set_option maxRecDepth 100000 in
theorem l_Mo_runs_L19 {fo : Option Nat} {d : Nat} (hd : 3 ≤ d + 1) {o : q_O} {σ' : q_H} {E : (Unit) → q_H → Prop} (v0 : Nat) (v2 : Int32) (v3 : Int32) (v4 : Int32) (v5 : Int32) (hX : ∀ (t : Unit) σ1, E (t) σ1 → q_G (q_rf fo) d m_Mo_runs o σ' 142 [none, none, none, none, none, none, none, none, none, none] [] σ1)  : ∀ (n : Nat) (v6 : Int32) (σ : q_H), q_J E (f_Mo_runs_L19 v0 v2 v3 v4 v5 n v6 σ) (q_G (q_rf fo) d m_Mo_runs o σ' 19 [some (.ref v0), none, some (.int v2), some (.int v3), some (.int v4), some (.int v5), some (.int v6), none, none, none] [] σ)
  | 0, v6, σ => J_none
  | n + 1, v6, σ => by
    unfold f_Mo_runs_L19
    refine q_J.step (fun g => j_iload rfl rfl (j_iload_n rfl rfl (g))) ?_
    refine J_ite (fun h1 => ?_) (fun h1 => ?_)
    · refine J_bind fun w2 hw2 => ?_
      refine J_cl fun x4 σ3 hσ3 => ?_
      refine J_sq (fun (t5 : Unit) (σ6 : q_H) => q_G (q_rf fo) d m_Mo_runs o σ' 126 [some (.ref v0), none, some (.int v2), some (.int v3), some (.int v4), some (.int v5), some (.int v6), some (.int (x4 + (1 : Int32))), none, none] [] σ6) (q_J.step (fun g => j_icmp_f rfl (cc_ge_f h1) (j_aload_n rfl rfl (j_bipush (6 : Int32) rfl kb_6 (j_v1 [.ref v0, .int (6 : Int32)] [] rfl rfl rfl rfl rfl rfl hw2 (Or.inl rfl) (t_Mo_draws (by omega) hσ3) (j_iconst (1 : Int32) rfl k32_1 (j_iadd rfl (j_istore [some (.ref v0), none, some (.int v2), some (.int v3), some (.int v4), some (.int v5), some (.int v6), some (.int (x4 + (1 : Int32))), none, none] rfl rfl (Or.inr rfl) rfl (j_bipush (45 : Int32) rfl kb_45 (j_istore [some (.ref v0), none, some (.int v2), some (.int v3), some (.int v4), some (.int v5), some (.int v6), some (.int (x4 + (1 : Int32))), some (.int (45 : Int32)), none] rfl rfl (Or.inr rfl) rfl (j_iconst (0 : Int32) rfl k32_0 (j_istore [some (.ref v0), none, some (.int v2), some (.int v3), some (.int v4), some (.int v5), some (.int v6), some (.int (x4 + (1 : Int32))), some (.int (45 : Int32)), some (.int (0 : Int32))] rfl rfl (Or.inr rfl) rfl (g)))))))))))) (l_Mo_runs_L42 hd v0 v2 v3 v4 v5 v6 (x4 + (1 : Int32)) (fun _ _ h => h) q_FU (45 : Int32) (0 : Int32) σ3)) (fun t5 σ6 => ?_)
      refine J_bind fun w7 hw7 => ?_
      refine J_cl fun _ σ8 hσ8 => ?_
      exact q_J.step (fun g => j_aload_n rfl rfl (j_iload rfl rfl (j_iload rfl rfl (j_iload rfl rfl (j_v0 [.ref v0, .int (x4 + (1 : Int32)), .int v4, .int v5] [] rfl rfl rfl rfl rfl rfl hw7 (Or.inl rfl) (t_Mo_weds (by omega) hσ8) (j_iinc [some (.ref v0), none, some (.int v2), some (.int v3), some (.int v4), some (.int v5), some (.int (v6 + (1 : Int32))), some (.int (x4 + (1 : Int32))), none, none] (v6 + (1 : Int32)) rfl rfl (by rw [k32_1]) (Or.inr rfl) rfl (j_goto rfl (j_weak (l := [some (.ref v0), none, some (.int v2), some (.int v3), some (.int v4), some (.int v5), some (.int (v6 + (1 : Int32))), none, none, none]) (And.intro (Or.inr rfl) (And.intro (Or.inr rfl) (And.intro (Or.inr rfl) (And.intro (Or.inr rfl) (And.intro (Or.inr rfl) (And.intro (Or.inr rfl) (And.intro (Or.inr rfl) (And.intro (Or.inl rfl) (And.intro (Or.inr rfl) (And.intro (Or.inr rfl) True.intro)))))))))) (g))))))))) (l_Mo_runs_L19 hd v0 v2 v3 v4 v5 hX n (v6 + (1 : Int32)) σ8)
    exact J_some (fun h => j_icmp_t rfl (cc_ge_t h1) (j_weak (l := [none, none, none, none, none, none, none, none, none, none]) (And.intro (Or.inl rfl) (And.intro (Or.inr rfl) (And.intro (Or.inl rfl) (And.intro (Or.inl rfl) (And.intro (Or.inl rfl) (And.intro (Or.inl rfl) (And.intro (Or.inl rfl) (And.intro (Or.inr rfl) (And.intro (Or.inr rfl) (And.intro (Or.inr rfl) True.intro)))))))))) (hX _ _ h)))

set_option maxRecDepth 100000 in
theorem b_Mo_runs {fo : Option Nat} {d : Nat} (hd : 3 ≤ d + 1) {o : q_O} {σ' : q_H} (v0 : Nat) (v1 : Int32) (v2 : Int32) (v3 : Int32) (v4 : Int32) (v5 : Int32) (σ : q_H) : q_J (fun (r : Unit) (σ1 : q_H) => o = .inl none ∧ σ' = σ1) (f_Mo_runs v0 v1 v2 v3 v4 v5 σ) (q_G (q_rf fo) d m_Mo_runs o σ' 0 [some (.ref v0), some (.int v1), some (.int v2), some (.int v3), some (.int v4), some (.int v5), none, none, none, none] [] σ) := by
  unfold f_Mo_runs
  refine J_bind fun σ1 hσ1 => ?_
  refine J_bind fun σ2 hσ2 => ?_
  refine J_bind fun σ3 hσ3 => ?_
  refine J_sq (fun (t4 : Unit) (σ5 : q_H) => q_G (q_rf fo) d m_Mo_runs o σ' 142 [none, none, none, none, none, none, none, none, none, none] [] σ5) (q_J.step (fun g => j_aload_n rfl rfl (j_iload_n rfl rfl (j_i2l rfl (j_putf rfl rfl rfl rfl hσ1 (j_aload_n rfl rfl (j_iconst (0 : Int32) rfl k32_0 (j_putf rfl rfl rfl rfl hσ2 (j_aload_n rfl rfl (j_iconst (0 : Int32) rfl k32_0 (j_putf rfl rfl rfl rfl hσ3 (j_iconst (0 : Int32) rfl k32_0 (j_istore [some (.ref v0), some (.int v1), some (.int v2), some (.int v3), some (.int v4), some (.int v5), some (.int (0 : Int32)), none, none, none] rfl rfl (Or.inr rfl) rfl (j_weak (l := [some (.ref v0), none, some (.int v2), some (.int v3), some (.int v4), some (.int v5), some (.int (0 : Int32)), none, none, none]) (And.intro (Or.inr rfl) (And.intro (Or.inl rfl) (And.intro (Or.inr rfl) (And.intro (Or.inr rfl) (And.intro (Or.inr rfl) (And.intro (Or.inr rfl) (And.intro (Or.inr rfl) (And.intro (Or.inr rfl) (And.intro (Or.inr rfl) (And.intro (Or.inr rfl) True.intro)))))))))) (g)))))))))))))) (l_Mo_runs_L19 hd v0 v2 v3 v4 v5 (fun _ _ h => h) q_FU (0 : Int32) σ3)) (fun t4 σ5 => ?_)
  exact J_some (fun h => j_vret rfl rfl h)
theorem t_Mo_runs {fo : Option Nat} {d : Nat} (hd : 3 ≤ d) {v0 : Nat} {v1 : Int32} {v2 : Int32} {v3 : Int32} {v4 : Int32} {v5 : Int32} {σ σ1 : q_H} {r : Unit} (h : f_Mo_runs v0 v1 v2 v3 v4 v5 σ = some (r, σ1)) : q_Rel (q_rf fo) q_Ms d 265 [.ref v0, .int v1, .int v2, .int v3, .int v4, .int v5] σ (.inl none) σ1 := by
  obtain ⟨d, rfl⟩ : ∃ d1, d = d1 + 1 := ⟨d - 1, by omega⟩
  exact q_Rel.of rfl rfl (b_Mo_runs hd _ _ _ _ _ _ σ _ _ h ⟨rfl, rfl⟩)

set_option maxRecDepth 100000 in
theorem b_Mo_forget {fo : Option Nat} {d : Nat} (hd : 4 ≤ d + 1) {o : q_O} {σ' : q_H} (v0 : Nat) (v1 : Int32) (σ : q_H) : q_J (fun (r : Int32) (σ1 : q_H) => o = .inl (some (.int r)) ∧ σ' = σ1) (f_Mo_forget v0 v1 σ) (q_G (q_rf fo) d m_Mo_forget o σ' 0 [some (.ref v0), some (.int v1)] [] σ) := by
  unfold f_Mo_forget
  refine J_bind fun σ1 hσ1 => ?_
  refine J_bind fun w2 hw2 => ?_
  refine J_cl fun x4 σ3 hσ3 => ?_
  refine q_J.step (fun g => j_aload_n rfl rfl (j_iconst (0 : Int32) rfl k32_0 (j_putf rfl rfl rfl rfl hσ1 (j_aload_n rfl rfl (j_iload_n rfl rfl (j_v1 [.ref v0, .int v1] [] rfl rfl rfl rfl rfl rfl hw2 (Or.inl rfl) (t_Mo_isThere (by omega) hσ3) (g))))))) ?_
  refine J_ite (fun h5 => ?_) (fun h5 => ?_)
  · exact J_some (fun h => j_if_f rfl (cc_ne_f h5) (j_iconst (0 : Int32) rfl k32_0 (j_iret rfl (q_zr (Or.inl rfl)) h)))
  refine J_bind fun x6 hx6 => ?_
  refine J_bind fun σ7 hσ7 => ?_
  exact J_some (fun h => j_if_t rfl (cc_ne_t h5) (j_aload_n rfl rfl (j_gfr rfl hx6 (j_iload_n rfl rfl (j_iconst (0 : Int32) rfl k32_0 (j_bas rfl (by decide) hσ7 (j_iconst (1 : Int32) rfl k32_1 (j_iret rfl (q_zr (Or.inr rfl)) h))))))))
theorem t_Mo_forget {fo : Option Nat} {d : Nat} (hd : 4 ≤ d) {v0 : Nat} {v1 : Int32} {σ σ1 : q_H} {r : Int32} (h : f_Mo_forget v0 v1 σ = some (r, σ1)) : q_Rel (q_rf fo) q_Ms d 176 [.ref v0, .int v1] σ (.inl (some (.int r))) σ1 := by
  obtain ⟨d, rfl⟩ : ∃ d1, d = d1 + 1 := ⟨d - 1, by omega⟩
  exact q_Rel.of rfl rfl (b_Mo_forget hd _ _ σ _ _ h ⟨rfl, rfl⟩)

set_option maxRecDepth 100000 in
theorem b_Mo_lines {fo : Option Nat} {d : Nat} (hd : 4 ≤ d + 1) {o : q_O} {σ' : q_H} (v0 : Nat) (v1 : Int32) (σ : q_H) : q_J (fun (r : Int32) (σ1 : q_H) => o = .inl (some (.int r)) ∧ σ' = σ1) (f_Mo_lines v0 v1 σ) (q_G (q_rf fo) d m_Mo_lines o σ' 0 [some (.ref v0), some (.int v1)] [] σ) := by
  unfold f_Mo_lines
  refine J_bind fun σ1 hσ1 => ?_
  refine J_bind fun w2 hw2 => ?_
  refine J_cl fun x4 σ3 hσ3 => ?_
  refine q_J.step (fun g => j_aload_n rfl rfl (j_iconst (0 : Int32) rfl k32_0 (j_putf rfl rfl rfl rfl hσ1 (j_aload_n rfl rfl (j_iload_n rfl rfl (j_v1 [.ref v0, .int v1] [] rfl rfl rfl rfl rfl rfl hw2 (Or.inl rfl) (t_Mo_isThere (by omega) hσ3) (g))))))) ?_
  refine J_ite (fun h5 => ?_) (fun h5 => ?_)
  · exact J_some (fun h => j_if_t rfl (cc_eq_t h5) (j_iconst (-1 : Int32) rfl k32_m1 (j_iret rfl rfl h)))
  refine J_bind fun x6 hx6 => ?_
  refine J_bind fun x7 hx7 => ?_
  exact J_some (fun h => j_if_f rfl (cc_eq_f h5) (j_aload_n rfl rfl (j_gfr rfl hx6 (j_iload_n rfl rfl (j_ial rfl hx7 (j_goto rfl (j_iret rfl rfl h)))))))
theorem t_Mo_lines {fo : Option Nat} {d : Nat} (hd : 4 ≤ d) {v0 : Nat} {v1 : Int32} {σ σ1 : q_H} {r : Int32} (h : f_Mo_lines v0 v1 σ = some (r, σ1)) : q_Rel (q_rf fo) q_Ms d 178 [.ref v0, .int v1] σ (.inl (some (.int r))) σ1 := by
  obtain ⟨d, rfl⟩ : ∃ d1, d = d1 + 1 := ⟨d - 1, by omega⟩
  exact q_Rel.of rfl rfl (b_Mo_lines hd _ _ σ _ _ h ⟨rfl, rfl⟩)

set_option maxRecDepth 100000 in
theorem b_Mo_isLine {fo : Option Nat} {d : Nat} (hd : 4 ≤ d + 1) {o : q_O} {σ' : q_H} (v0 : Nat) (v1 : Int32) (v2 : Int32) (σ : q_H) : q_J (fun (r : Int32) (σ1 : q_H) => o = .inl (some (.int r)) ∧ σ' = σ1) (f_Mo_isLine v0 v1 v2 σ) (q_G (q_rf fo) d m_Mo_isLine o σ' 0 [some (.ref v0), some (.int v1), some (.int v2)] [] σ) := by
  unfold f_Mo_isLine
  refine J_bind fun w1 hw1 => ?_
  refine J_cl fun x3 σ2 hσ2 => ?_
  refine q_J.step (fun g => j_aload_n rfl rfl (j_iload_n rfl rfl (j_v1 [.ref v0, .int v1] [] rfl rfl rfl rfl rfl rfl hw1 (Or.inl rfl) (t_Mo_isThere (by omega) hσ2) (g)))) ?_
  refine J_ite (fun h4 => ?_) (fun h4 => ?_)
  · exact J_some (fun h => j_if_t rfl (cc_eq_t h4) (j_iconst (0 : Int32) rfl k32_0 (j_iret rfl (q_zr (Or.inl rfl)) h)))
  refine J_bind fun x5 hx5 => ?_
  refine J_bind fun x6 hx6 => ?_
  refine J_cl fun x8 σ7 hσ7 => ?_
  refine q_J.step (fun g => j_if_f rfl (cc_eq_f h4) (j_iload_n rfl rfl (j_iconst (0 : Int32) rfl k32_0 (j_aload_n rfl rfl (j_gfr rfl hx5 (j_iload_n rfl rfl (j_ial rfl hx6 (j_iconst (1 : Int32) rfl k32_1 (j_isub rfl (j_s1 [.int v2, .int (0 : Int32), .int (x6 - (1 : Int32))] [] rfl rfl rfl rfl rfl (t_Mo_within (by omega) hσ7) (g))))))))))) ?_
  refine J_ite (fun h9 => ?_) (fun h9 => ?_)
  · exact J_some (fun h => j_if_t rfl (cc_eq_t h9) (j_iconst (0 : Int32) rfl k32_0 (j_iret rfl (q_zr (Or.inl rfl)) h)))
  exact J_some (fun h => j_if_f rfl (cc_eq_f h9) (j_iconst (1 : Int32) rfl k32_1 (j_goto rfl (j_iret rfl (q_zr (Or.inr rfl)) h))))
theorem t_Mo_isLine {fo : Option Nat} {d : Nat} (hd : 4 ≤ d) {v0 : Nat} {v1 : Int32} {v2 : Int32} {σ σ1 : q_H} {r : Int32} (h : f_Mo_isLine v0 v1 v2 σ = some (r, σ1)) : q_Rel (q_rf fo) q_Ms d 180 [.ref v0, .int v1, .int v2] σ (.inl (some (.int r))) σ1 := by
  obtain ⟨d, rfl⟩ : ∃ d1, d = d1 + 1 := ⟨d - 1, by omega⟩
  exact q_Rel.of rfl rfl (b_Mo_isLine hd _ _ _ σ _ _ h ⟨rfl, rfl⟩)

