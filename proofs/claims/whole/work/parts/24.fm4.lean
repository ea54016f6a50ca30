/-! Methods of the reference. -/
def f_Mo_readsLine_L161 (v0 : Nat) (v1 : Int32) : Nat → Int32 → q_H → Option ((Int32 ⊕ Unit) × q_H)
  | 0, _, _ => none
  | n + 1, v2, σ => (q_ob σ 12 v0).bind fun w55 => q_sq (f_Mo_isSign v0 (59 : Int32) σ) fun x57 σ56 => if x57 = (0 : Int32) then ((q_ob σ56 12 v0).bind fun w59 => q_sq (f_Mo_tag v0 σ56) fun x61 σ60 => if x61 = (0 : Int32) then ((q_ob σ60 12 v0).bind fun w63 => q_sq (f_Mo_errs v0 (1 : Int32) σ60) fun x65 σ64 => if ¬ (x65 = 0 ∨ x65 = 1) then none else some ((.inl x65), σ64)) else (if ((v2 >>> (x61 &&& 31)) &&& (1 : Int32)) = (1 : Int32) then ((q_ob σ60 12 v0).bind fun w67 => q_sq (f_Mo_errs v0 (3 : Int32) σ60) fun x69 σ68 => if ¬ (x69 = 0 ∨ x69 = 1) then none else some ((.inl x69), σ68)) else (if x61 = (3 : Int32) then ((q_gr (q_gf σ60 12 v0 8)).bind fun x71 => (q_gi (q_ga σ60 20 x71 v1)).bind fun x72 => if x72 = (0 : Int32) then ((q_ob σ60 12 v0).bind fun w74 => q_sq (f_Mo_errs v0 (6 : Int32) σ60) fun x76 σ75 => if ¬ (x76 = 0 ∨ x76 = 1) then none else some ((.inl x76), σ75)) else (if x61 = (5 : Int32) then (if ((v2 >>> ((4 : Int32) &&& 31)) &&& (1 : Int32)) = (0 : Int32) then ((q_ob σ60 12 v0).bind fun w79 => q_sq (f_Mo_errs v0 (6 : Int32) σ60) fun x81 σ80 => if ¬ (x81 = 0 ∨ x81 = 1) then none else some ((.inl x81), σ80)) else ((q_ob σ60 12 v0).bind fun w82 => q_sq (f_Mo_nextToken v0 σ60) fun (_ : Unit) σ83 => if x61 < (5 : Int32) then ((q_ob σ83 12 v0).bind fun w86 => q_sq (f_Mo_readsName v0 v1 x61 σ83) fun x88 σ87 => if x88 = (0 : Int32) then (some ((.inl (0 : Int32)), σ87)) else (if (4 : Int32) < x61 then ((q_gr (q_gf σ87 12 v0 12)).bind fun x91 => (q_gi (q_ga σ87 20 x91 v1)).bind fun x92 => (q_sa σ87 20 x91 v1 (.int (x92 ||| ((1 : Int32) <<< ((x61 - (5 : Int32)) &&& 31))))).bind fun σ93 => f_Mo_readsLine_L161 v0 v1 n (v2 ||| ((1 : Int32) <<< (x61 &&& 31))) σ93) else (f_Mo_readsLine_L161 v0 v1 n (v2 ||| ((1 : Int32) <<< (x61 &&& 31))) σ87))) else (if (4 : Int32) < x61 then ((q_gr (q_gf σ83 12 v0 12)).bind fun x95 => (q_gi (q_ga σ83 20 x95 v1)).bind fun x96 => (q_sa σ83 20 x95 v1 (.int (x96 ||| ((1 : Int32) <<< ((x61 - (5 : Int32)) &&& 31))))).bind fun σ97 => f_Mo_readsLine_L161 v0 v1 n (v2 ||| ((1 : Int32) <<< (x61 &&& 31))) σ97) else (f_Mo_readsLine_L161 v0 v1 n (v2 ||| ((1 : Int32) <<< (x61 &&& 31))) σ83)))) else ((q_ob σ60 12 v0).bind fun w98 => q_sq (f_Mo_nextToken v0 σ60) fun (_ : Unit) σ99 => if x61 < (5 : Int32) then ((q_ob σ99 12 v0).bind fun w102 => q_sq (f_Mo_readsName v0 v1 x61 σ99) fun x104 σ103 => if x104 = (0 : Int32) then (some ((.inl (0 : Int32)), σ103)) else (if (4 : Int32) < x61 then ((q_gr (q_gf σ103 12 v0 12)).bind fun x107 => (q_gi (q_ga σ103 20 x107 v1)).bind fun x108 => (q_sa σ103 20 x107 v1 (.int (x108 ||| ((1 : Int32) <<< ((x61 - (5 : Int32)) &&& 31))))).bind fun σ109 => f_Mo_readsLine_L161 v0 v1 n (v2 ||| ((1 : Int32) <<< (x61 &&& 31))) σ109) else (f_Mo_readsLine_L161 v0 v1 n (v2 ||| ((1 : Int32) <<< (x61 &&& 31))) σ103))) else (if (4 : Int32) < x61 then ((q_gr (q_gf σ99 12 v0 12)).bind fun x111 => (q_gi (q_ga σ99 20 x111 v1)).bind fun x112 => (q_sa σ99 20 x111 v1 (.int (x112 ||| ((1 : Int32) <<< ((x61 - (5 : Int32)) &&& 31))))).bind fun σ113 => f_Mo_readsLine_L161 v0 v1 n (v2 ||| ((1 : Int32) <<< (x61 &&& 31))) σ113) else (f_Mo_readsLine_L161 v0 v1 n (v2 ||| ((1 : Int32) <<< (x61 &&& 31))) σ99))))) else (if x61 = (4 : Int32) then ((q_gr (q_gf σ60 12 v0 8)).bind fun x115 => (q_gi (q_ga σ60 20 x115 v1)).bind fun x116 => if x116 = (0 : Int32) then ((q_ob σ60 12 v0).bind fun w118 => q_sq (f_Mo_errs v0 (6 : Int32) σ60) fun x120 σ119 => if ¬ (x120 = 0 ∨ x120 = 1) then none else some ((.inl x120), σ119)) else (if x61 = (5 : Int32) then (if ((v2 >>> ((4 : Int32) &&& 31)) &&& (1 : Int32)) = (0 : Int32) then ((q_ob σ60 12 v0).bind fun w123 => q_sq (f_Mo_errs v0 (6 : Int32) σ60) fun x125 σ124 => if ¬ (x125 = 0 ∨ x125 = 1) then none else some ((.inl x125), σ124)) else ((q_ob σ60 12 v0).bind fun w126 => q_sq (f_Mo_nextToken v0 σ60) fun (_ : Unit) σ127 => if x61 < (5 : Int32) then ((q_ob σ127 12 v0).bind fun w130 => q_sq (f_Mo_readsName v0 v1 x61 σ127) fun x132 σ131 => if x132 = (0 : Int32) then (some ((.inl (0 : Int32)), σ131)) else (if (4 : Int32) < x61 then ((q_gr (q_gf σ131 12 v0 12)).bind fun x135 => (q_gi (q_ga σ131 20 x135 v1)).bind fun x136 => (q_sa σ131 20 x135 v1 (.int (x136 ||| ((1 : Int32) <<< ((x61 - (5 : Int32)) &&& 31))))).bind fun σ137 => f_Mo_readsLine_L161 v0 v1 n (v2 ||| ((1 : Int32) <<< (x61 &&& 31))) σ137) else (f_Mo_readsLine_L161 v0 v1 n (v2 ||| ((1 : Int32) <<< (x61 &&& 31))) σ131))) else (if (4 : Int32) < x61 then ((q_gr (q_gf σ127 12 v0 12)).bind fun x139 => (q_gi (q_ga σ127 20 x139 v1)).bind fun x140 => (q_sa σ127 20 x139 v1 (.int (x140 ||| ((1 : Int32) <<< ((x61 - (5 : Int32)) &&& 31))))).bind fun σ141 => f_Mo_readsLine_L161 v0 v1 n (v2 ||| ((1 : Int32) <<< (x61 &&& 31))) σ141) else (f_Mo_readsLine_L161 v0 v1 n (v2 ||| ((1 : Int32) <<< (x61 &&& 31))) σ127)))) else ((q_ob σ60 12 v0).bind fun w142 => q_sq (f_Mo_nextToken v0 σ60) fun (_ : Unit) σ143 => if x61 < (5 : Int32) then ((q_ob σ143 12 v0).bind fun w146 => q_sq (f_Mo_readsName v0 v1 x61 σ143) fun x148 σ147 => if x148 = (0 : Int32) then (some ((.inl (0 : Int32)), σ147)) else (if (4 : Int32) < x61 then ((q_gr (q_gf σ147 12 v0 12)).bind fun x151 => (q_gi (q_ga σ147 20 x151 v1)).bind fun x152 => (q_sa σ147 20 x151 v1 (.int (x152 ||| ((1 : Int32) <<< ((x61 - (5 : Int32)) &&& 31))))).bind fun σ153 => f_Mo_readsLine_L161 v0 v1 n (v2 ||| ((1 : Int32) <<< (x61 &&& 31))) σ153) else (f_Mo_readsLine_L161 v0 v1 n (v2 ||| ((1 : Int32) <<< (x61 &&& 31))) σ147))) else (if (4 : Int32) < x61 then ((q_gr (q_gf σ143 12 v0 12)).bind fun x155 => (q_gi (q_ga σ143 20 x155 v1)).bind fun x156 => (q_sa σ143 20 x155 v1 (.int (x156 ||| ((1 : Int32) <<< ((x61 - (5 : Int32)) &&& 31))))).bind fun σ157 => f_Mo_readsLine_L161 v0 v1 n (v2 ||| ((1 : Int32) <<< (x61 &&& 31))) σ157) else (f_Mo_readsLine_L161 v0 v1 n (v2 ||| ((1 : Int32) <<< (x61 &&& 31))) σ143))))) else (if x61 = (5 : Int32) then (if ((v2 >>> ((4 : Int32) &&& 31)) &&& (1 : Int32)) = (0 : Int32) then ((q_ob σ60 12 v0).bind fun w160 => q_sq (f_Mo_errs v0 (6 : Int32) σ60) fun x162 σ161 => if ¬ (x162 = 0 ∨ x162 = 1) then none else some ((.inl x162), σ161)) else ((q_ob σ60 12 v0).bind fun w163 => q_sq (f_Mo_nextToken v0 σ60) fun (_ : Unit) σ164 => if x61 < (5 : Int32) then ((q_ob σ164 12 v0).bind fun w167 => q_sq (f_Mo_readsName v0 v1 x61 σ164) fun x169 σ168 => if x169 = (0 : Int32) then (some ((.inl (0 : Int32)), σ168)) else (if (4 : Int32) < x61 then ((q_gr (q_gf σ168 12 v0 12)).bind fun x172 => (q_gi (q_ga σ168 20 x172 v1)).bind fun x173 => (q_sa σ168 20 x172 v1 (.int (x173 ||| ((1 : Int32) <<< ((x61 - (5 : Int32)) &&& 31))))).bind fun σ174 => f_Mo_readsLine_L161 v0 v1 n (v2 ||| ((1 : Int32) <<< (x61 &&& 31))) σ174) else (f_Mo_readsLine_L161 v0 v1 n (v2 ||| ((1 : Int32) <<< (x61 &&& 31))) σ168))) else (if (4 : Int32) < x61 then ((q_gr (q_gf σ164 12 v0 12)).bind fun x176 => (q_gi (q_ga σ164 20 x176 v1)).bind fun x177 => (q_sa σ164 20 x176 v1 (.int (x177 ||| ((1 : Int32) <<< ((x61 - (5 : Int32)) &&& 31))))).bind fun σ178 => f_Mo_readsLine_L161 v0 v1 n (v2 ||| ((1 : Int32) <<< (x61 &&& 31))) σ178) else (f_Mo_readsLine_L161 v0 v1 n (v2 ||| ((1 : Int32) <<< (x61 &&& 31))) σ164)))) else ((q_ob σ60 12 v0).bind fun w179 => q_sq (f_Mo_nextToken v0 σ60) fun (_ : Unit) σ180 => if x61 < (5 : Int32) then ((q_ob σ180 12 v0).bind fun w183 => q_sq (f_Mo_readsName v0 v1 x61 σ180) fun x185 σ184 => if x185 = (0 : Int32) then (some ((.inl (0 : Int32)), σ184)) else (if (4 : Int32) < x61 then ((q_gr (q_gf σ184 12 v0 12)).bind fun x188 => (q_gi (q_ga σ184 20 x188 v1)).bind fun x189 => (q_sa σ184 20 x188 v1 (.int (x189 ||| ((1 : Int32) <<< ((x61 - (5 : Int32)) &&& 31))))).bind fun σ190 => f_Mo_readsLine_L161 v0 v1 n (v2 ||| ((1 : Int32) <<< (x61 &&& 31))) σ190) else (f_Mo_readsLine_L161 v0 v1 n (v2 ||| ((1 : Int32) <<< (x61 &&& 31))) σ184))) else (if (4 : Int32) < x61 then ((q_gr (q_gf σ180 12 v0 12)).bind fun x192 => (q_gi (q_ga σ180 20 x192 v1)).bind fun x193 => (q_sa σ180 20 x192 v1 (.int (x193 ||| ((1 : Int32) <<< ((x61 - (5 : Int32)) &&& 31))))).bind fun σ194 => f_Mo_readsLine_L161 v0 v1 n (v2 ||| ((1 : Int32) <<< (x61 &&& 31))) σ194) else (f_Mo_readsLine_L161 v0 v1 n (v2 ||| ((1 : Int32) <<< (x61 &&& 31))) σ180)))))))) else (some ((.inr ()), σ56))
set_option maxRecDepth 100000 in
theorem l_Mo_readsLine_L161 {fo : Option Nat} {d : Nat} (hd : 4 ≤ d + 1) {o : q_O} {σ' : q_H} {E : (Int32 ⊕ Unit) → q_H → Prop} (v0 : Nat) (v1 : Int32) (hR : ∀ r σ1, E (.inl r) σ1 → o = .inl (some (.int r)) ∧ σ' = σ1) (hX : ∀ (t : Unit) σ1, E (.inr t) σ1 → q_G (q_rf fo) d m_Mo_readsLine o σ' 287 [some (.ref v0), none, none, none] [] σ1)  : ∀ (n : Nat) (v2 : Int32) (σ : q_H), q_J E (f_Mo_readsLine_L161 v0 v1 n v2 σ) (q_G (q_rf fo) d m_Mo_readsLine o σ' 161 [some (.ref v0), some (.int v1), some (.int v2), none] [] σ)
  | 0, v2, σ => J_none
  | n + 1, v2, σ => by
    unfold f_Mo_readsLine_L161
    refine J_bind fun w55 hw55 => ?_
    refine J_cl fun x57 σ56 hσ56 => ?_
    refine q_J.step (fun g => j_aload_n rfl rfl (j_bipush (59 : Int32) rfl kb_59 (j_v1 [.ref v0, .int (59 : Int32)] [] rfl rfl rfl rfl rfl rfl hw55 (Or.inl rfl) (t_Mo_isSign (by omega) hσ56) (g)))) ?_
    refine J_ite (fun h58 => ?_) (fun h58 => ?_)
    · refine J_bind fun w59 hw59 => ?_
      refine J_cl fun x61 σ60 hσ60 => ?_
      refine q_J.step (fun g => j_if_f rfl (cc_ne_f h58) (j_aload_n rfl rfl (j_v1 [.ref v0] [] rfl rfl rfl rfl rfl rfl hw59 (Or.inl rfl) (t_Mo_tag (by omega) hσ60) (j_istore_n [some (.ref v0), some (.int v1), some (.int v2), some (.int x61)] rfl rfl (Or.inr rfl) rfl (j_iload_n rfl rfl (g)))))) ?_
      refine J_ite (fun h62 => ?_) (fun h62 => ?_)
      · refine J_bind fun w63 hw63 => ?_
        refine J_cl fun x65 σ64 hσ64 => ?_
        refine q_J.step (fun g => j_if_f rfl (cc_ne_f h62) (j_aload_n rfl rfl (j_iconst (1 : Int32) rfl k32_1 (j_v1 [.ref v0, .int (1 : Int32)] [] rfl rfl rfl rfl rfl rfl hw63 (Or.inl rfl) (t_Mo_errs (by omega) hσ64) (g))))) ?_
        refine J_ite (fun _ => J_none) (fun hz => ?_)
        replace hz := Decidable.not_not.mp hz
        exact J_some (fun h => j_iret rfl (q_zr hz) (hR _ _ h))
      refine q_J.step (fun g => j_if_t rfl (cc_ne_t h62) (j_iload_n rfl rfl (j_iload_n rfl rfl (j_ishr rfl (j_iconst (1 : Int32) rfl k32_1 (j_iand rfl (j_iconst (1 : Int32) rfl k32_1 (g)))))))) ?_
      refine J_ite (fun h66 => ?_) (fun h66 => ?_)
      · refine J_bind fun w67 hw67 => ?_
        refine J_cl fun x69 σ68 hσ68 => ?_
        refine q_J.step (fun g => j_icmp_f rfl (cc_ne_f h66) (j_aload_n rfl rfl (j_iconst (3 : Int32) rfl k32_3 (j_v1 [.ref v0, .int (3 : Int32)] [] rfl rfl rfl rfl rfl rfl hw67 (Or.inl rfl) (t_Mo_errs (by omega) hσ68) (g))))) ?_
        refine J_ite (fun _ => J_none) (fun hz => ?_)
        replace hz := Decidable.not_not.mp hz
        exact J_some (fun h => j_iret rfl (q_zr hz) (hR _ _ h))
      refine q_J.step (fun g => j_icmp_t rfl (cc_ne_t h66) (j_iload_n rfl rfl (j_iconst (3 : Int32) rfl k32_3 (g)))) ?_
      refine J_ite (fun h70 => ?_) (fun h70 => ?_)
      · refine J_bind fun x71 hx71 => ?_
        refine J_bind fun x72 hx72 => ?_
        refine q_J.step (fun g => j_icmp_t rfl (cc_eq_t h70) (j_aload_n rfl rfl (j_gfr rfl hx71 (j_iload_n rfl rfl (j_ial rfl hx72 (g)))))) ?_
        refine J_ite (fun h73 => ?_) (fun h73 => ?_)
        · refine J_bind fun w74 hw74 => ?_
          refine J_cl fun x76 σ75 hσ75 => ?_
          refine q_J.step (fun g => j_if_t rfl (cc_eq_t h73) (j_aload_n rfl rfl (j_bipush (6 : Int32) rfl kb_6 (j_v1 [.ref v0, .int (6 : Int32)] [] rfl rfl rfl rfl rfl rfl hw74 (Or.inl rfl) (t_Mo_errs (by omega) hσ75) (g))))) ?_
          refine J_ite (fun _ => J_none) (fun hz => ?_)
          replace hz := Decidable.not_not.mp hz
          exact J_some (fun h => j_iret rfl (q_zr hz) (hR _ _ h))
        refine q_J.step (fun g => j_if_f rfl (cc_eq_f h73) (j_iload_n rfl rfl (j_iconst (5 : Int32) rfl k32_5 (g)))) ?_
        refine J_ite (fun h77 => ?_) (fun h77 => ?_)
        · refine q_J.step (fun g => j_icmp_f rfl (cc_ne_f h77) (j_iload_n rfl rfl (j_iconst (4 : Int32) rfl k32_4 (j_ishr rfl (j_iconst (1 : Int32) rfl k32_1 (j_iand rfl (g))))))) ?_
          refine J_ite (fun h78 => ?_) (fun h78 => ?_)
          · refine J_bind fun w79 hw79 => ?_
            refine J_cl fun x81 σ80 hσ80 => ?_
            refine q_J.step (fun g => j_if_f rfl (cc_ne_f h78) (j_aload_n rfl rfl (j_bipush (6 : Int32) rfl kb_6 (j_v1 [.ref v0, .int (6 : Int32)] [] rfl rfl rfl rfl rfl rfl hw79 (Or.inl rfl) (t_Mo_errs (by omega) hσ80) (g))))) ?_
            refine J_ite (fun _ => J_none) (fun hz => ?_)
            replace hz := Decidable.not_not.mp hz
            exact J_some (fun h => j_iret rfl (q_zr hz) (hR _ _ h))
          refine J_bind fun w82 hw82 => ?_
          refine J_cl fun _ σ83 hσ83 => ?_
          refine q_J.step (fun g => j_if_t rfl (cc_ne_t h78) (j_iload_n rfl rfl (j_iconst (1 : Int32) rfl k32_1 (j_iload_n rfl rfl (j_ishl rfl (j_ior rfl (j_istore_n [some (.ref v0), some (.int v1), some (.int (v2 ||| ((1 : Int32) <<< (x61 &&& 31)))), some (.int x61)] rfl rfl (Or.inr rfl) rfl (j_aload_n rfl rfl (j_v0 [.ref v0] [] rfl rfl rfl rfl rfl rfl hw82 (Or.inl rfl) (t_Mo_nextToken (by omega) hσ83) (j_iload_n rfl rfl (j_iconst (5 : Int32) rfl k32_5 (g)))))))))))) ?_
          refine J_ite (fun h85 => ?_) (fun h85 => ?_)
          · refine J_bind fun w86 hw86 => ?_
            refine J_cl fun x88 σ87 hσ87 => ?_
            refine q_J.step (fun g => j_icmp_f rfl (cc_ge_f h85) (j_aload_n rfl rfl (j_iload_n rfl rfl (j_iload_n rfl rfl (j_v1 [.ref v0, .int v1, .int x61] [] rfl rfl rfl rfl rfl rfl hw86 (Or.inl rfl) (t_Mo_readsName (by omega) hσ87) (g)))))) ?_
            refine J_ite (fun h89 => ?_) (fun h89 => ?_)
            · exact J_some (fun h => j_if_f rfl (cc_ne_f h89) (j_iconst (0 : Int32) rfl k32_0 (j_iret rfl (q_zr (Or.inl rfl)) (hR _ _ h))))
            refine q_J.step (fun g => j_if_t rfl (cc_ne_t h89) (j_iload_n rfl rfl (j_iconst (4 : Int32) rfl k32_4 (g)))) ?_
            refine J_ite (fun h90 => ?_) (fun h90 => ?_)
            · refine J_bind fun x91 hx91 => ?_
              refine J_bind fun x92 hx92 => ?_
              refine J_bind fun σ93 hσ93 => ?_
              exact q_J.step (fun g => j_icmp_f rfl (cc_le_f h90) (j_aload_n rfl rfl (j_gfr rfl hx91 (j_iload_n rfl rfl (j_dup2 rfl rfl rfl (j_ial rfl hx92 (j_iconst (1 : Int32) rfl k32_1 (j_iload_n rfl rfl (j_iconst (5 : Int32) rfl k32_5 (j_isub rfl (j_ishl rfl (j_ior rfl (j_ias rfl hσ93 (j_goto rfl (j_weak (l := [some (.ref v0), some (.int v1), some (.int (v2 ||| ((1 : Int32) <<< (x61 &&& 31)))), none]) (And.intro (Or.inr rfl) (And.intro (Or.inr rfl) (And.intro (Or.inr rfl) (And.intro (Or.inl rfl) True.intro)))) (g)))))))))))))))) (l_Mo_readsLine_L161 hd v0 v1 hR hX n (v2 ||| ((1 : Int32) <<< (x61 &&& 31))) σ93)
            exact q_J.step (fun g => j_icmp_t rfl (cc_le_t h90) (j_goto rfl (j_weak (l := [some (.ref v0), some (.int v1), some (.int (v2 ||| ((1 : Int32) <<< (x61 &&& 31)))), none]) (And.intro (Or.inr rfl) (And.intro (Or.inr rfl) (And.intro (Or.inr rfl) (And.intro (Or.inl rfl) True.intro)))) (g)))) (l_Mo_readsLine_L161 hd v0 v1 hR hX n (v2 ||| ((1 : Int32) <<< (x61 &&& 31))) σ87)
          refine q_J.step (fun g => j_icmp_t rfl (cc_ge_t h85) (j_iload_n rfl rfl (j_iconst (4 : Int32) rfl k32_4 (g)))) ?_
          refine J_ite (fun h94 => ?_) (fun h94 => ?_)
          · refine J_bind fun x95 hx95 => ?_
            refine J_bind fun x96 hx96 => ?_
            refine J_bind fun σ97 hσ97 => ?_
            exact q_J.step (fun g => j_icmp_f rfl (cc_le_f h94) (j_aload_n rfl rfl (j_gfr rfl hx95 (j_iload_n rfl rfl (j_dup2 rfl rfl rfl (j_ial rfl hx96 (j_iconst (1 : Int32) rfl k32_1 (j_iload_n rfl rfl (j_iconst (5 : Int32) rfl k32_5 (j_isub rfl (j_ishl rfl (j_ior rfl (j_ias rfl hσ97 (j_goto rfl (j_weak (l := [some (.ref v0), some (.int v1), some (.int (v2 ||| ((1 : Int32) <<< (x61 &&& 31)))), none]) (And.intro (Or.inr rfl) (And.intro (Or.inr rfl) (And.intro (Or.inr rfl) (And.intro (Or.inl rfl) True.intro)))) (g)))))))))))))))) (l_Mo_readsLine_L161 hd v0 v1 hR hX n (v2 ||| ((1 : Int32) <<< (x61 &&& 31))) σ97)
          exact q_J.step (fun g => j_icmp_t rfl (cc_le_t h94) (j_goto rfl (j_weak (l := [some (.ref v0), some (.int v1), some (.int (v2 ||| ((1 : Int32) <<< (x61 &&& 31)))), none]) (And.intro (Or.inr rfl) (And.intro (Or.inr rfl) (And.intro (Or.inr rfl) (And.intro (Or.inl rfl) True.intro)))) (g)))) (l_Mo_readsLine_L161 hd v0 v1 hR hX n (v2 ||| ((1 : Int32) <<< (x61 &&& 31))) σ83)
        refine J_bind fun w98 hw98 => ?_
        refine J_cl fun _ σ99 hσ99 => ?_
        refine q_J.step (fun g => j_icmp_t rfl (cc_ne_t h77) (j_iload_n rfl rfl (j_iconst (1 : Int32) rfl k32_1 (j_iload_n rfl rfl (j_ishl rfl (j_ior rfl (j_istore_n [some (.ref v0), some (.int v1), some (.int (v2 ||| ((1 : Int32) <<< (x61 &&& 31)))), some (.int x61)] rfl rfl (Or.inr rfl) rfl (j_aload_n rfl rfl (j_v0 [.ref v0] [] rfl rfl rfl rfl rfl rfl hw98 (Or.inl rfl) (t_Mo_nextToken (by omega) hσ99) (j_iload_n rfl rfl (j_iconst (5 : Int32) rfl k32_5 (g)))))))))))) ?_
        refine J_ite (fun h101 => ?_) (fun h101 => ?_)
        · refine J_bind fun w102 hw102 => ?_
          refine J_cl fun x104 σ103 hσ103 => ?_
          refine q_J.step (fun g => j_icmp_f rfl (cc_ge_f h101) (j_aload_n rfl rfl (j_iload_n rfl rfl (j_iload_n rfl rfl (j_v1 [.ref v0, .int v1, .int x61] [] rfl rfl rfl rfl rfl rfl hw102 (Or.inl rfl) (t_Mo_readsName (by omega) hσ103) (g)))))) ?_
          refine J_ite (fun h105 => ?_) (fun h105 => ?_)
          · exact J_some (fun h => j_if_f rfl (cc_ne_f h105) (j_iconst (0 : Int32) rfl k32_0 (j_iret rfl (q_zr (Or.inl rfl)) (hR _ _ h))))
          refine q_J.step (fun g => j_if_t rfl (cc_ne_t h105) (j_iload_n rfl rfl (j_iconst (4 : Int32) rfl k32_4 (g)))) ?_
          refine J_ite (fun h106 => ?_) (fun h106 => ?_)
          · refine J_bind fun x107 hx107 => ?_
            refine J_bind fun x108 hx108 => ?_
            refine J_bind fun σ109 hσ109 => ?_
            exact q_J.step (fun g => j_icmp_f rfl (cc_le_f h106) (j_aload_n rfl rfl (j_gfr rfl hx107 (j_iload_n rfl rfl (j_dup2 rfl rfl rfl (j_ial rfl hx108 (j_iconst (1 : Int32) rfl k32_1 (j_iload_n rfl rfl (j_iconst (5 : Int32) rfl k32_5 (j_isub rfl (j_ishl rfl (j_ior rfl (j_ias rfl hσ109 (j_goto rfl (j_weak (l := [some (.ref v0), some (.int v1), some (.int (v2 ||| ((1 : Int32) <<< (x61 &&& 31)))), none]) (And.intro (Or.inr rfl) (And.intro (Or.inr rfl) (And.intro (Or.inr rfl) (And.intro (Or.inl rfl) True.intro)))) (g)))))))))))))))) (l_Mo_readsLine_L161 hd v0 v1 hR hX n (v2 ||| ((1 : Int32) <<< (x61 &&& 31))) σ109)
          exact q_J.step (fun g => j_icmp_t rfl (cc_le_t h106) (j_goto rfl (j_weak (l := [some (.ref v0), some (.int v1), some (.int (v2 ||| ((1 : Int32) <<< (x61 &&& 31)))), none]) (And.intro (Or.inr rfl) (And.intro (Or.inr rfl) (And.intro (Or.inr rfl) (And.intro (Or.inl rfl) True.intro)))) (g)))) (l_Mo_readsLine_L161 hd v0 v1 hR hX n (v2 ||| ((1 : Int32) <<< (x61 &&& 31))) σ103)
        refine q_J.step (fun g => j_icmp_t rfl (cc_ge_t h101) (j_iload_n rfl rfl (j_iconst (4 : Int32) rfl k32_4 (g)))) ?_
        refine J_ite (fun h110 => ?_) (fun h110 => ?_)
        · refine J_bind fun x111 hx111 => ?_
          refine J_bind fun x112 hx112 => ?_
          refine J_bind fun σ113 hσ113 => ?_
          exact q_J.step (fun g => j_icmp_f rfl (cc_le_f h110) (j_aload_n rfl rfl (j_gfr rfl hx111 (j_iload_n rfl rfl (j_dup2 rfl rfl rfl (j_ial rfl hx112 (j_iconst (1 : Int32) rfl k32_1 (j_iload_n rfl rfl (j_iconst (5 : Int32) rfl k32_5 (j_isub rfl (j_ishl rfl (j_ior rfl (j_ias rfl hσ113 (j_goto rfl (j_weak (l := [some (.ref v0), some (.int v1), some (.int (v2 ||| ((1 : Int32) <<< (x61 &&& 31)))), none]) (And.intro (Or.inr rfl) (And.intro (Or.inr rfl) (And.intro (Or.inr rfl) (And.intro (Or.inl rfl) True.intro)))) (g)))))))))))))))) (l_Mo_readsLine_L161 hd v0 v1 hR hX n (v2 ||| ((1 : Int32) <<< (x61 &&& 31))) σ113)
        exact q_J.step (fun g => j_icmp_t rfl (cc_le_t h110) (j_goto rfl (j_weak (l := [some (.ref v0), some (.int v1), some (.int (v2 ||| ((1 : Int32) <<< (x61 &&& 31)))), none]) (And.intro (Or.inr rfl) (And.intro (Or.inr rfl) (And.intro (Or.inr rfl) (And.intro (Or.inl rfl) True.intro)))) (g)))) (l_Mo_readsLine_L161 hd v0 v1 hR hX n (v2 ||| ((1 : Int32) <<< (x61 &&& 31))) σ99)
      refine q_J.step (fun g => j_icmp_f rfl (cc_eq_f h70) (j_iload_n rfl rfl (j_iconst (4 : Int32) rfl k32_4 (g)))) ?_
      refine J_ite (fun h114 => ?_) (fun h114 => ?_)
      · refine J_bind fun x115 hx115 => ?_
        refine J_bind fun x116 hx116 => ?_
        refine q_J.step (fun g => j_icmp_f rfl (cc_ne_f h114) (j_aload_n rfl rfl (j_gfr rfl hx115 (j_iload_n rfl rfl (j_ial rfl hx116 (g)))))) ?_
        refine J_ite (fun h117 => ?_) (fun h117 => ?_)
        · refine J_bind fun w118 hw118 => ?_
          refine J_cl fun x120 σ119 hσ119 => ?_
          refine q_J.step (fun g => j_if_t rfl (cc_eq_t h117) (j_aload_n rfl rfl (j_bipush (6 : Int32) rfl kb_6 (j_v1 [.ref v0, .int (6 : Int32)] [] rfl rfl rfl rfl rfl rfl hw118 (Or.inl rfl) (t_Mo_errs (by omega) hσ119) (g))))) ?_
          refine J_ite (fun _ => J_none) (fun hz => ?_)
          replace hz := Decidable.not_not.mp hz
          exact J_some (fun h => j_iret rfl (q_zr hz) (hR _ _ h))
        refine q_J.step (fun g => j_if_f rfl (cc_eq_f h117) (j_iload_n rfl rfl (j_iconst (5 : Int32) rfl k32_5 (g)))) ?_
        refine J_ite (fun h121 => ?_) (fun h121 => ?_)
        · refine q_J.step (fun g => j_icmp_f rfl (cc_ne_f h121) (j_iload_n rfl rfl (j_iconst (4 : Int32) rfl k32_4 (j_ishr rfl (j_iconst (1 : Int32) rfl k32_1 (j_iand rfl (g))))))) ?_
          refine J_ite (fun h122 => ?_) (fun h122 => ?_)
          · refine J_bind fun w123 hw123 => ?_
            refine J_cl fun x125 σ124 hσ124 => ?_
            refine q_J.step (fun g => j_if_f rfl (cc_ne_f h122) (j_aload_n rfl rfl (j_bipush (6 : Int32) rfl kb_6 (j_v1 [.ref v0, .int (6 : Int32)] [] rfl rfl rfl rfl rfl rfl hw123 (Or.inl rfl) (t_Mo_errs (by omega) hσ124) (g))))) ?_
            refine J_ite (fun _ => J_none) (fun hz => ?_)
            replace hz := Decidable.not_not.mp hz
            exact J_some (fun h => j_iret rfl (q_zr hz) (hR _ _ h))
          refine J_bind fun w126 hw126 => ?_
          refine J_cl fun _ σ127 hσ127 => ?_
          refine q_J.step (fun g => j_if_t rfl (cc_ne_t h122) (j_iload_n rfl rfl (j_iconst (1 : Int32) rfl k32_1 (j_iload_n rfl rfl (j_ishl rfl (j_ior rfl (j_istore_n [some (.ref v0), some (.int v1), some (.int (v2 ||| ((1 : Int32) <<< (x61 &&& 31)))), some (.int x61)] rfl rfl (Or.inr rfl) rfl (j_aload_n rfl rfl (j_v0 [.ref v0] [] rfl rfl rfl rfl rfl rfl hw126 (Or.inl rfl) (t_Mo_nextToken (by omega) hσ127) (j_iload_n rfl rfl (j_iconst (5 : Int32) rfl k32_5 (g)))))))))))) ?_
          refine J_ite (fun h129 => ?_) (fun h129 => ?_)
          · refine J_bind fun w130 hw130 => ?_
            refine J_cl fun x132 σ131 hσ131 => ?_
            refine q_J.step (fun g => j_icmp_f rfl (cc_ge_f h129) (j_aload_n rfl rfl (j_iload_n rfl rfl (j_iload_n rfl rfl (j_v1 [.ref v0, .int v1, .int x61] [] rfl rfl rfl rfl rfl rfl hw130 (Or.inl rfl) (t_Mo_readsName (by omega) hσ131) (g)))))) ?_
            refine J_ite (fun h133 => ?_) (fun h133 => ?_)
            · exact J_some (fun h => j_if_f rfl (cc_ne_f h133) (j_iconst (0 : Int32) rfl k32_0 (j_iret rfl (q_zr (Or.inl rfl)) (hR _ _ h))))
            refine q_J.step (fun g => j_if_t rfl (cc_ne_t h133) (j_iload_n rfl rfl (j_iconst (4 : Int32) rfl k32_4 (g)))) ?_
            refine J_ite (fun h134 => ?_) (fun h134 => ?_)
            · refine J_bind fun x135 hx135 => ?_
              refine J_bind fun x136 hx136 => ?_
              refine J_bind fun σ137 hσ137 => ?_
              exact q_J.step (fun g => j_icmp_f rfl (cc_le_f h134) (j_aload_n rfl rfl (j_gfr rfl hx135 (j_iload_n rfl rfl (j_dup2 rfl rfl rfl (j_ial rfl hx136 (j_iconst (1 : Int32) rfl k32_1 (j_iload_n rfl rfl (j_iconst (5 : Int32) rfl k32_5 (j_isub rfl (j_ishl rfl (j_ior rfl (j_ias rfl hσ137 (j_goto rfl (j_weak (l := [some (.ref v0), some (.int v1), some (.int (v2 ||| ((1 : Int32) <<< (x61 &&& 31)))), none]) (And.intro (Or.inr rfl) (And.intro (Or.inr rfl) (And.intro (Or.inr rfl) (And.intro (Or.inl rfl) True.intro)))) (g)))))))))))))))) (l_Mo_readsLine_L161 hd v0 v1 hR hX n (v2 ||| ((1 : Int32) <<< (x61 &&& 31))) σ137)
            exact q_J.step (fun g => j_icmp_t rfl (cc_le_t h134) (j_goto rfl (j_weak (l := [some (.ref v0), some (.int v1), some (.int (v2 ||| ((1 : Int32) <<< (x61 &&& 31)))), none]) (And.intro (Or.inr rfl) (And.intro (Or.inr rfl) (And.intro (Or.inr rfl) (And.intro (Or.inl rfl) True.intro)))) (g)))) (l_Mo_readsLine_L161 hd v0 v1 hR hX n (v2 ||| ((1 : Int32) <<< (x61 &&& 31))) σ131)
          refine q_J.step (fun g => j_icmp_t rfl (cc_ge_t h129) (j_iload_n rfl rfl (j_iconst (4 : Int32) rfl k32_4 (g)))) ?_
          refine J_ite (fun h138 => ?_) (fun h138 => ?_)
          · refine J_bind fun x139 hx139 => ?_
            refine J_bind fun x140 hx140 => ?_
            refine J_bind fun σ141 hσ141 => ?_
            exact q_J.step (fun g => j_icmp_f rfl (cc_le_f h138) (j_aload_n rfl rfl (j_gfr rfl hx139 (j_iload_n rfl rfl (j_dup2 rfl rfl rfl (j_ial rfl hx140 (j_iconst (1 : Int32) rfl k32_1 (j_iload_n rfl rfl (j_iconst (5 : Int32) rfl k32_5 (j_isub rfl (j_ishl rfl (j_ior rfl (j_ias rfl hσ141 (j_goto rfl (j_weak (l := [some (.ref v0), some (.int v1), some (.int (v2 ||| ((1 : Int32) <<< (x61 &&& 31)))), none]) (And.intro (Or.inr rfl) (And.intro (Or.inr rfl) (And.intro (Or.inr rfl) (And.intro (Or.inl rfl) True.intro)))) (g)))))))))))))))) (l_Mo_readsLine_L161 hd v0 v1 hR hX n (v2 ||| ((1 : Int32) <<< (x61 &&& 31))) σ141)
          exact q_J.step (fun g => j_icmp_t rfl (cc_le_t h138) (j_goto rfl (j_weak (l := [some (.ref v0), some (.int v1), some (.int (v2 ||| ((1 : Int32) <<< (x61 &&& 31)))), none]) (And.intro (Or.inr rfl) (And.intro (Or.inr rfl) (And.intro (Or.inr rfl) (And.intro (Or.inl rfl) True.intro)))) (g)))) (l_Mo_readsLine_L161 hd v0 v1 hR hX n (v2 ||| ((1 : Int32) <<< (x61 &&& 31))) σ127)
        refine J_bind fun w142 hw142 => ?_
        refine J_cl fun _ σ143 hσ143 => ?_
        refine q_J.step (fun g => j_icmp_t rfl (cc_ne_t h121) (j_iload_n rfl rfl (j_iconst (1 : Int32) rfl k32_1 (j_iload_n rfl rfl (j_ishl rfl (j_ior rfl (j_istore_n [some (.ref v0), some (.int v1), some (.int (v2 ||| ((1 : Int32) <<< (x61 &&& 31)))), some (.int x61)] rfl rfl (Or.inr rfl) rfl (j_aload_n rfl rfl (j_v0 [.ref v0] [] rfl rfl rfl rfl rfl rfl hw142 (Or.inl rfl) (t_Mo_nextToken (by omega) hσ143) (j_iload_n rfl rfl (j_iconst (5 : Int32) rfl k32_5 (g)))))))))))) ?_
        refine J_ite (fun h145 => ?_) (fun h145 => ?_)
        · refine J_bind fun w146 hw146 => ?_
          refine J_cl fun x148 σ147 hσ147 => ?_
          refine q_J.step (fun g => j_icmp_f rfl (cc_ge_f h145) (j_aload_n rfl rfl (j_iload_n rfl rfl (j_iload_n rfl rfl (j_v1 [.ref v0, .int v1, .int x61] [] rfl rfl rfl rfl rfl rfl hw146 (Or.inl rfl) (t_Mo_readsName (by omega) hσ147) (g)))))) ?_
          refine J_ite (fun h149 => ?_) (fun h149 => ?_)
          · exact J_some (fun h => j_if_f rfl (cc_ne_f h149) (j_iconst (0 : Int32) rfl k32_0 (j_iret rfl (q_zr (Or.inl rfl)) (hR _ _ h))))
          refine q_J.step (fun g => j_if_t rfl (cc_ne_t h149) (j_iload_n rfl rfl (j_iconst (4 : Int32) rfl k32_4 (g)))) ?_
          refine J_ite (fun h150 => ?_) (fun h150 => ?_)
          · refine J_bind fun x151 hx151 => ?_
            refine J_bind fun x152 hx152 => ?_
            refine J_bind fun σ153 hσ153 => ?_
            exact q_J.step (fun g => j_icmp_f rfl (cc_le_f h150) (j_aload_n rfl rfl (j_gfr rfl hx151 (j_iload_n rfl rfl (j_dup2 rfl rfl rfl (j_ial rfl hx152 (j_iconst (1 : Int32) rfl k32_1 (j_iload_n rfl rfl (j_iconst (5 : Int32) rfl k32_5 (j_isub rfl (j_ishl rfl (j_ior rfl (j_ias rfl hσ153 (j_goto rfl (j_weak (l := [some (.ref v0), some (.int v1), some (.int (v2 ||| ((1 : Int32) <<< (x61 &&& 31)))), none]) (And.intro (Or.inr rfl) (And.intro (Or.inr rfl) (And.intro (Or.inr rfl) (And.intro (Or.inl rfl) True.intro)))) (g)))))))))))))))) (l_Mo_readsLine_L161 hd v0 v1 hR hX n (v2 ||| ((1 : Int32) <<< (x61 &&& 31))) σ153)
          exact q_J.step (fun g => j_icmp_t rfl (cc_le_t h150) (j_goto rfl (j_weak (l := [some (.ref v0), some (.int v1), some (.int (v2 ||| ((1 : Int32) <<< (x61 &&& 31)))), none]) (And.intro (Or.inr rfl) (And.intro (Or.inr rfl) (And.intro (Or.inr rfl) (And.intro (Or.inl rfl) True.intro)))) (g)))) (l_Mo_readsLine_L161 hd v0 v1 hR hX n (v2 ||| ((1 : Int32) <<< (x61 &&& 31))) σ147)
        refine q_J.step (fun g => j_icmp_t rfl (cc_ge_t h145) (j_iload_n rfl rfl (j_iconst (4 : Int32) rfl k32_4 (g)))) ?_
        refine J_ite (fun h154 => ?_) (fun h154 => ?_)
        · refine J_bind fun x155 hx155 => ?_
          refine J_bind fun x156 hx156 => ?_
          refine J_bind fun σ157 hσ157 => ?_
          exact q_J.step (fun g => j_icmp_f rfl (cc_le_f h154) (j_aload_n rfl rfl (j_gfr rfl hx155 (j_iload_n rfl rfl (j_dup2 rfl rfl rfl (j_ial rfl hx156 (j_iconst (1 : Int32) rfl k32_1 (j_iload_n rfl rfl (j_iconst (5 : Int32) rfl k32_5 (j_isub rfl (j_ishl rfl (j_ior rfl (j_ias rfl hσ157 (j_goto rfl (j_weak (l := [some (.ref v0), some (.int v1), some (.int (v2 ||| ((1 : Int32) <<< (x61 &&& 31)))), none]) (And.intro (Or.inr rfl) (And.intro (Or.inr rfl) (And.intro (Or.inr rfl) (And.intro (Or.inl rfl) True.intro)))) (g)))))))))))))))) (l_Mo_readsLine_L161 hd v0 v1 hR hX n (v2 ||| ((1 : Int32) <<< (x61 &&& 31))) σ157)
        exact q_J.step (fun g => j_icmp_t rfl (cc_le_t h154) (j_goto rfl (j_weak (l := [some (.ref v0), some (.int v1), some (.int (v2 ||| ((1 : Int32) <<< (x61 &&& 31)))), none]) (And.intro (Or.inr rfl) (And.intro (Or.inr rfl) (And.intro (Or.inr rfl) (And.intro (Or.inl rfl) True.intro)))) (g)))) (l_Mo_readsLine_L161 hd v0 v1 hR hX n (v2 ||| ((1 : Int32) <<< (x61 &&& 31))) σ143)
      refine q_J.step (fun g => j_icmp_t rfl (cc_ne_t h114) (j_iload_n rfl rfl (j_iconst (5 : Int32) rfl k32_5 (g)))) ?_
      refine J_ite (fun h158 => ?_) (fun h158 => ?_)
      · refine q_J.step (fun g => j_icmp_f rfl (cc_ne_f h158) (j_iload_n rfl rfl (j_iconst (4 : Int32) rfl k32_4 (j_ishr rfl (j_iconst (1 : Int32) rfl k32_1 (j_iand rfl (g))))))) ?_
        refine J_ite (fun h159 => ?_) (fun h159 => ?_)
        · refine J_bind fun w160 hw160 => ?_
          refine J_cl fun x162 σ161 hσ161 => ?_
          refine q_J.step (fun g => j_if_f rfl (cc_ne_f h159) (j_aload_n rfl rfl (j_bipush (6 : Int32) rfl kb_6 (j_v1 [.ref v0, .int (6 : Int32)] [] rfl rfl rfl rfl rfl rfl hw160 (Or.inl rfl) (t_Mo_errs (by omega) hσ161) (g))))) ?_
          refine J_ite (fun _ => J_none) (fun hz => ?_)
          replace hz := Decidable.not_not.mp hz
          exact J_some (fun h => j_iret rfl (q_zr hz) (hR _ _ h))
        refine J_bind fun w163 hw163 => ?_
        refine J_cl fun _ σ164 hσ164 => ?_
        refine q_J.step (fun g => j_if_t rfl (cc_ne_t h159) (j_iload_n rfl rfl (j_iconst (1 : Int32) rfl k32_1 (j_iload_n rfl rfl (j_ishl rfl (j_ior rfl (j_istore_n [some (.ref v0), some (.int v1), some (.int (v2 ||| ((1 : Int32) <<< (x61 &&& 31)))), some (.int x61)] rfl rfl (Or.inr rfl) rfl (j_aload_n rfl rfl (j_v0 [.ref v0] [] rfl rfl rfl rfl rfl rfl hw163 (Or.inl rfl) (t_Mo_nextToken (by omega) hσ164) (j_iload_n rfl rfl (j_iconst (5 : Int32) rfl k32_5 (g)))))))))))) ?_
        refine J_ite (fun h166 => ?_) (fun h166 => ?_)
        · refine J_bind fun w167 hw167 => ?_
          refine J_cl fun x169 σ168 hσ168 => ?_
          refine q_J.step (fun g => j_icmp_f rfl (cc_ge_f h166) (j_aload_n rfl rfl (j_iload_n rfl rfl (j_iload_n rfl rfl (j_v1 [.ref v0, .int v1, .int x61] [] rfl rfl rfl rfl rfl rfl hw167 (Or.inl rfl) (t_Mo_readsName (by omega) hσ168) (g)))))) ?_
          refine J_ite (fun h170 => ?_) (fun h170 => ?_)
          · exact J_some (fun h => j_if_f rfl (cc_ne_f h170) (j_iconst (0 : Int32) rfl k32_0 (j_iret rfl (q_zr (Or.inl rfl)) (hR _ _ h))))
          refine q_J.step (fun g => j_if_t rfl (cc_ne_t h170) (j_iload_n rfl rfl (j_iconst (4 : Int32) rfl k32_4 (g)))) ?_
          refine J_ite (fun h171 => ?_) (fun h171 => ?_)
          · refine J_bind fun x172 hx172 => ?_
            refine J_bind fun x173 hx173 => ?_
            refine J_bind fun σ174 hσ174 => ?_
            exact q_J.step (fun g => j_icmp_f rfl (cc_le_f h171) (j_aload_n rfl rfl (j_gfr rfl hx172 (j_iload_n rfl rfl (j_dup2 rfl rfl rfl (j_ial rfl hx173 (j_iconst (1 : Int32) rfl k32_1 (j_iload_n rfl rfl (j_iconst (5 : Int32) rfl k32_5 (j_isub rfl (j_ishl rfl (j_ior rfl (j_ias rfl hσ174 (j_goto rfl (j_weak (l := [some (.ref v0), some (.int v1), some (.int (v2 ||| ((1 : Int32) <<< (x61 &&& 31)))), none]) (And.intro (Or.inr rfl) (And.intro (Or.inr rfl) (And.intro (Or.inr rfl) (And.intro (Or.inl rfl) True.intro)))) (g)))))))))))))))) (l_Mo_readsLine_L161 hd v0 v1 hR hX n (v2 ||| ((1 : Int32) <<< (x61 &&& 31))) σ174)
          exact q_J.step (fun g => j_icmp_t rfl (cc_le_t h171) (j_goto rfl (j_weak (l := [some (.ref v0), some (.int v1), some (.int (v2 ||| ((1 : Int32) <<< (x61 &&& 31)))), none]) (And.intro (Or.inr rfl) (And.intro (Or.inr rfl) (And.intro (Or.inr rfl) (And.intro (Or.inl rfl) True.intro)))) (g)))) (l_Mo_readsLine_L161 hd v0 v1 hR hX n (v2 ||| ((1 : Int32) <<< (x61 &&& 31))) σ168)
        refine q_J.step (fun g => j_icmp_t rfl (cc_ge_t h166) (j_iload_n rfl rfl (j_iconst (4 : Int32) rfl k32_4 (g)))) ?_
        refine J_ite (fun h175 => ?_) (fun h175 => ?_)
        · refine J_bind fun x176 hx176 => ?_
          refine J_bind fun x177 hx177 => ?_
          refine J_bind fun σ178 hσ178 => ?_
          exact q_J.step (fun g => j_icmp_f rfl (cc_le_f h175) (j_aload_n rfl rfl (j_gfr rfl hx176 (j_iload_n rfl rfl (j_dup2 rfl rfl rfl (j_ial rfl hx177 (j_iconst (1 : Int32) rfl k32_1 (j_iload_n rfl rfl (j_iconst (5 : Int32) rfl k32_5 (j_isub rfl (j_ishl rfl (j_ior rfl (j_ias rfl hσ178 (j_goto rfl (j_weak (l := [some (.ref v0), some (.int v1), some (.int (v2 ||| ((1 : Int32) <<< (x61 &&& 31)))), none]) (And.intro (Or.inr rfl) (And.intro (Or.inr rfl) (And.intro (Or.inr rfl) (And.intro (Or.inl rfl) True.intro)))) (g)))))))))))))))) (l_Mo_readsLine_L161 hd v0 v1 hR hX n (v2 ||| ((1 : Int32) <<< (x61 &&& 31))) σ178)
        exact q_J.step (fun g => j_icmp_t rfl (cc_le_t h175) (j_goto rfl (j_weak (l := [some (.ref v0), some (.int v1), some (.int (v2 ||| ((1 : Int32) <<< (x61 &&& 31)))), none]) (And.intro (Or.inr rfl) (And.intro (Or.inr rfl) (And.intro (Or.inr rfl) (And.intro (Or.inl rfl) True.intro)))) (g)))) (l_Mo_readsLine_L161 hd v0 v1 hR hX n (v2 ||| ((1 : Int32) <<< (x61 &&& 31))) σ164)
      refine J_bind fun w179 hw179 => ?_
      refine J_cl fun _ σ180 hσ180 => ?_
      refine q_J.step (fun g => j_icmp_t rfl (cc_ne_t h158) (j_iload_n rfl rfl (j_iconst (1 : Int32) rfl k32_1 (j_iload_n rfl rfl (j_ishl rfl (j_ior rfl (j_istore_n [some (.ref v0), some (.int v1), some (.int (v2 ||| ((1 : Int32) <<< (x61 &&& 31)))), some (.int x61)] rfl rfl (Or.inr rfl) rfl (j_aload_n rfl rfl (j_v0 [.ref v0] [] rfl rfl rfl rfl rfl rfl hw179 (Or.inl rfl) (t_Mo_nextToken (by omega) hσ180) (j_iload_n rfl rfl (j_iconst (5 : Int32) rfl k32_5 (g)))))))))))) ?_
      refine J_ite (fun h182 => ?_) (fun h182 => ?_)
      · refine J_bind fun w183 hw183 => ?_
        refine J_cl fun x185 σ184 hσ184 => ?_
        refine q_J.step (fun g => j_icmp_f rfl (cc_ge_f h182) (j_aload_n rfl rfl (j_iload_n rfl rfl (j_iload_n rfl rfl (j_v1 [.ref v0, .int v1, .int x61] [] rfl rfl rfl rfl rfl rfl hw183 (Or.inl rfl) (t_Mo_readsName (by omega) hσ184) (g)))))) ?_
        refine J_ite (fun h186 => ?_) (fun h186 => ?_)
        · exact J_some (fun h => j_if_f rfl (cc_ne_f h186) (j_iconst (0 : Int32) rfl k32_0 (j_iret rfl (q_zr (Or.inl rfl)) (hR _ _ h))))
        refine q_J.step (fun g => j_if_t rfl (cc_ne_t h186) (j_iload_n rfl rfl (j_iconst (4 : Int32) rfl k32_4 (g)))) ?_
        refine J_ite (fun h187 => ?_) (fun h187 => ?_)
        · refine J_bind fun x188 hx188 => ?_
          refine J_bind fun x189 hx189 => ?_
          refine J_bind fun σ190 hσ190 => ?_
          exact q_J.step (fun g => j_icmp_f rfl (cc_le_f h187) (j_aload_n rfl rfl (j_gfr rfl hx188 (j_iload_n rfl rfl (j_dup2 rfl rfl rfl (j_ial rfl hx189 (j_iconst (1 : Int32) rfl k32_1 (j_iload_n rfl rfl (j_iconst (5 : Int32) rfl k32_5 (j_isub rfl (j_ishl rfl (j_ior rfl (j_ias rfl hσ190 (j_goto rfl (j_weak (l := [some (.ref v0), some (.int v1), some (.int (v2 ||| ((1 : Int32) <<< (x61 &&& 31)))), none]) (And.intro (Or.inr rfl) (And.intro (Or.inr rfl) (And.intro (Or.inr rfl) (And.intro (Or.inl rfl) True.intro)))) (g)))))))))))))))) (l_Mo_readsLine_L161 hd v0 v1 hR hX n (v2 ||| ((1 : Int32) <<< (x61 &&& 31))) σ190)
        exact q_J.step (fun g => j_icmp_t rfl (cc_le_t h187) (j_goto rfl (j_weak (l := [some (.ref v0), some (.int v1), some (.int (v2 ||| ((1 : Int32) <<< (x61 &&& 31)))), none]) (And.intro (Or.inr rfl) (And.intro (Or.inr rfl) (And.intro (Or.inr rfl) (And.intro (Or.inl rfl) True.intro)))) (g)))) (l_Mo_readsLine_L161 hd v0 v1 hR hX n (v2 ||| ((1 : Int32) <<< (x61 &&& 31))) σ184)
      refine q_J.step (fun g => j_icmp_t rfl (cc_ge_t h182) (j_iload_n rfl rfl (j_iconst (4 : Int32) rfl k32_4 (g)))) ?_
      refine J_ite (fun h191 => ?_) (fun h191 => ?_)
      · refine J_bind fun x192 hx192 => ?_
        refine J_bind fun x193 hx193 => ?_
        refine J_bind fun σ194 hσ194 => ?_
        exact q_J.step (fun g => j_icmp_f rfl (cc_le_f h191) (j_aload_n rfl rfl (j_gfr rfl hx192 (j_iload_n rfl rfl (j_dup2 rfl rfl rfl (j_ial rfl hx193 (j_iconst (1 : Int32) rfl k32_1 (j_iload_n rfl rfl (j_iconst (5 : Int32) rfl k32_5 (j_isub rfl (j_ishl rfl (j_ior rfl (j_ias rfl hσ194 (j_goto rfl (j_weak (l := [some (.ref v0), some (.int v1), some (.int (v2 ||| ((1 : Int32) <<< (x61 &&& 31)))), none]) (And.intro (Or.inr rfl) (And.intro (Or.inr rfl) (And.intro (Or.inr rfl) (And.intro (Or.inl rfl) True.intro)))) (g)))))))))))))))) (l_Mo_readsLine_L161 hd v0 v1 hR hX n (v2 ||| ((1 : Int32) <<< (x61 &&& 31))) σ194)
      exact q_J.step (fun g => j_icmp_t rfl (cc_le_t h191) (j_goto rfl (j_weak (l := [some (.ref v0), some (.int v1), some (.int (v2 ||| ((1 : Int32) <<< (x61 &&& 31)))), none]) (And.intro (Or.inr rfl) (And.intro (Or.inr rfl) (And.intro (Or.inr rfl) (And.intro (Or.inl rfl) True.intro)))) (g)))) (l_Mo_readsLine_L161 hd v0 v1 hR hX n (v2 ||| ((1 : Int32) <<< (x61 &&& 31))) σ180)
    exact J_some (fun h => j_if_t rfl (cc_ne_t h58) (j_weak (l := [some (.ref v0), none, none, none]) (And.intro (Or.inr rfl) (And.intro (Or.inl rfl) (And.intro (Or.inl rfl) (And.intro (Or.inr rfl) True.intro)))) (hX _ _ h)))

def f_Mo_readsLine (v0 : Nat) (σ : q_H) : Option ((Int32) × q_H) := (q_gr (q_gf σ 12 v0 7)).bind fun x1 => (q_gi (q_ga σ 20 x1 (24 : Int32))).bind fun x2 => (q_gr (q_gf σ 12 v0 8)).bind fun x3 => (q_ob σ 12 v0).bind fun w4 => q_sq (f_Mo_isWord v0 (12527906 : Int64) σ) fun x6 σ5 => q_sq (if x6 = (0 : Int32) then (some ((0 : Int32), σ5)) else (some ((1 : Int32), σ5))) fun (t8 : Int32) σ9 => (q_sa σ9 20 x3 ((288 : Int32) + x2) (.int t8)).bind fun σ10 => (q_gr (q_gf σ10 12 v0 10)).bind fun x11 => (q_sa σ10 20 x11 ((288 : Int32) + x2) (.int (-1 : Int32))).bind fun σ12 => (q_gr (q_gf σ12 12 v0 11)).bind fun x13 => (q_sa σ12 20 x13 ((288 : Int32) + x2) (.int (-1 : Int32))).bind fun σ14 => (q_gr (q_gf σ14 12 v0 12)).bind fun x15 => (q_sa σ14 20 x15 ((288 : Int32) + x2) (.int (0 : Int32))).bind fun σ16 => (q_gr (q_gf σ16 12 v0 14)).bind fun x17 => (q_sa σ16 21 x17 ((288 : Int32) + x2) (.long (0 : Int64))).bind fun σ18 => (q_gr (q_gf σ18 12 v0 15)).bind fun x19 => (q_sa σ18 21 x19 ((288 : Int32) + x2) (.long (0 : Int64))).bind fun σ20 => (q_ob σ20 12 v0).bind fun w21 => q_sq (f_Mo_nextToken v0 σ20) fun (_ : Unit) σ22 => (q_ob σ22 12 v0).bind fun w24 => q_sq (f_Mo_isName v0 σ22) fun x26 σ25 => if x26 = (0 : Int32) then ((q_ob σ25 12 v0).bind fun w28 => q_sq (f_Mo_errs v0 (1 : Int32) σ25) fun x30 σ29 => if ¬ (x30 = 0 ∨ x30 = 1) then none else some (x30, σ29)) else ((q_gl' (q_gf σ25 12 v0 22)).bind fun x31 => (q_ob σ25 12 v0).bind fun w32 => q_sq (f_Mo_lineOf v0 x31 σ25) fun x34 σ33 => if x34 < (0 : Int32) then ((q_gr (q_gf σ33 12 v0 13)).bind fun x36 => (q_gl' (q_gf σ33 12 v0 22)).bind fun x37 => (q_sa σ33 21 x36 ((288 : Int32) + x2) (.long x37)).bind fun σ38 => (q_ob σ38 12 v0).bind fun w39 => q_sq (f_Mo_nextToken v0 σ38) fun (_ : Unit) σ40 => (q_gi (q_gf σ40 12 v0 21)).bind fun x42 => if x42 = (2 : Int32) then ((q_gi (q_gf σ40 12 v0 23)).bind fun x44 => if (120 : Int32) < x44 then ((q_ob σ40 12 v0).bind fun w46 => q_sq (f_Mo_errs v0 (4 : Int32) σ40) fun x48 σ47 => if ¬ (x48 = 0 ∨ x48 = 1) then none else some (x48, σ47)) else ((q_gr (q_gf σ40 12 v0 9)).bind fun x49 => (q_gi (q_gf σ40 12 v0 23)).bind fun x50 => (q_sa σ40 20 x49 ((288 : Int32) + x2) (.int x50)).bind fun σ51 => (q_ob σ51 12 v0).bind fun w52 => q_sq (f_Mo_nextToken v0 σ51) fun (_ : Unit) σ53 => q_sq (f_Mo_readsLine_L161 v0 ((288 : Int32) + x2) q_FU (0 : Int32) σ53) fun (t0 : Int32 ⊕ Unit) σ196 => match t0 with | .inl r203 => some (r203, σ196) | .inr t195 => ((q_ob σ196 12 v0).bind fun w197 => q_sq (f_Mo_nextToken v0 σ196) fun (_ : Unit) σ198 => (q_gr (q_gf σ198 12 v0 7)).bind fun x200 => (q_gi (q_ga σ198 20 x200 (24 : Int32))).bind fun x201 => (q_sa σ198 20 x200 (24 : Int32) (.int (x201 + (1 : Int32)))).bind fun σ202 => some ((1 : Int32), σ202)))) else ((q_ob σ40 12 v0).bind fun w204 => q_sq (f_Mo_errs v0 (1 : Int32) σ40) fun x206 σ205 => if ¬ (x206 = 0 ∨ x206 = 1) then none else some (x206, σ205))) else ((q_ob σ33 12 v0).bind fun w207 => q_sq (f_Mo_errs v0 (3 : Int32) σ33) fun x209 σ208 => if ¬ (x209 = 0 ∨ x209 = 1) then none else some (x209, σ208)))
set_option maxRecDepth 100000 in
theorem b_Mo_readsLine {fo : Option Nat} {d : Nat} (hd : 4 ≤ d + 1) {o : q_O} {σ' : q_H} (v0 : Nat) (σ : q_H) : q_J (fun (r : Int32) (σ1 : q_H) => o = .inl (some (.int r)) ∧ σ' = σ1) (f_Mo_readsLine v0 σ) (q_G (q_rf fo) d m_Mo_readsLine o σ' 0 [some (.ref v0), none, none, none] [] σ) := by
  unfold f_Mo_readsLine
  refine J_bind fun x1 hx1 => ?_
  refine J_bind fun x2 hx2 => ?_
  refine J_bind fun x3 hx3 => ?_
  refine J_bind fun w4 hw4 => ?_
  refine J_cl fun x6 σ5 hσ5 => ?_
  refine q_J.step (fun g => j_sipush (288 : Int32) rfl ks_288 (j_aload_n rfl rfl (j_gfr rfl hx1 (j_bipush (24 : Int32) rfl kb_24 (j_ial rfl hx2 (j_iadd rfl (j_istore_n [some (.ref v0), some (.int ((288 : Int32) + x2)), none, none] rfl rfl (Or.inr rfl) rfl (j_iconst (0 : Int32) rfl k32_0 (j_istore_n [some (.ref v0), some (.int ((288 : Int32) + x2)), some (.int (0 : Int32)), none] rfl rfl (Or.inr rfl) rfl (j_aload_n rfl rfl (j_gfr rfl hx3 (j_iload_n rfl rfl (j_aload_n rfl rfl (j_ldc2 (12527906 : Int64) rfl kw_12527906 (g))))))))))))))) ?_
  refine q_J.step (fun g => j_v1 [.ref v0, .long (12527906 : Int64)] [.int ((288 : Int32) + x2), .ref x3] rfl rfl rfl rfl rfl rfl hw4 (Or.inl rfl) (t_Mo_isWord (by omega) hσ5) (g)) ?_
  refine J_sq (fun (t8 : Int32) (σ9 : q_H) => q_G (q_rf fo) d m_Mo_readsLine o σ' 34 [some (.ref v0), some (.int ((288 : Int32) + x2)), some (.int (0 : Int32)), none] [.int t8, .int ((288 : Int32) + x2), .ref x3] σ9) ?_ (fun t8 σ9 => ?_)
  · refine J_ite (fun h7 => ?_) (fun h7 => ?_)
    · exact J_some (fun h => j_if_t rfl (cc_eq_t h7) (j_iconst (0 : Int32) rfl k32_0 (h)))
    exact J_some (fun h => j_if_f rfl (cc_eq_f h7) (j_iconst (1 : Int32) rfl k32_1 (j_goto rfl (h))))
  refine J_bind fun σ10 hσ10 => ?_
  refine J_bind fun x11 hx11 => ?_
  refine J_bind fun σ12 hσ12 => ?_
  refine J_bind fun x13 hx13 => ?_
  refine J_bind fun σ14 hσ14 => ?_
  refine J_bind fun x15 hx15 => ?_
  refine J_bind fun σ16 hσ16 => ?_
  refine J_bind fun x17 hx17 => ?_
  refine J_bind fun σ18 hσ18 => ?_
  refine J_bind fun x19 hx19 => ?_
  refine J_bind fun σ20 hσ20 => ?_
  refine J_bind fun w21 hw21 => ?_
  refine J_cl fun _ σ22 hσ22 => ?_
  refine J_bind fun w24 hw24 => ?_
  refine J_cl fun x26 σ25 hσ25 => ?_
  refine q_J.step (fun g => j_ias rfl hσ10 (j_aload_n rfl rfl (j_gfr rfl hx11 (j_iload_n rfl rfl (j_iconst (-1 : Int32) rfl k32_m1 (j_ias rfl hσ12 (j_aload_n rfl rfl (j_gfr rfl hx13 (j_iload_n rfl rfl (j_iconst (-1 : Int32) rfl k32_m1 (j_ias rfl hσ14 (j_aload_n rfl rfl (j_gfr rfl hx15 (j_iload_n rfl rfl (g))))))))))))))) ?_
  refine q_J.step (fun g => j_iconst (0 : Int32) rfl k32_0 (j_ias rfl hσ16 (j_aload_n rfl rfl (j_gfr rfl hx17 (j_iload_n rfl rfl (j_lconst (0 : Int64) rfl kl_0 (j_las rfl hσ18 (j_aload_n rfl rfl (j_gfr rfl hx19 (j_iload_n rfl rfl (j_lconst (0 : Int64) rfl kl_0 (j_las rfl hσ20 (j_aload_n rfl rfl (j_v0 [.ref v0] [] rfl rfl rfl rfl rfl rfl hw21 (Or.inl rfl) (t_Mo_nextToken (by omega) hσ22) (g))))))))))))))) ?_
  refine q_J.step (fun g => j_aload_n rfl rfl (j_v1 [.ref v0] [] rfl rfl rfl rfl rfl rfl hw24 (Or.inl rfl) (t_Mo_isName (by omega) hσ25) (g))) ?_
  refine J_ite (fun h27 => ?_) (fun h27 => ?_)
  · refine J_bind fun w28 hw28 => ?_
    refine J_cl fun x30 σ29 hσ29 => ?_
    refine q_J.step (fun g => j_if_f rfl (cc_ne_f h27) (j_aload_n rfl rfl (j_iconst (1 : Int32) rfl k32_1 (j_v1 [.ref v0, .int (1 : Int32)] [] rfl rfl rfl rfl rfl rfl hw28 (Or.inl rfl) (t_Mo_errs (by omega) hσ29) (g))))) ?_
    refine J_ite (fun _ => J_none) (fun hz => ?_)
    replace hz := Decidable.not_not.mp hz
    exact J_some (fun h => j_iret rfl (q_zr hz) h)
  refine J_bind fun x31 hx31 => ?_
  refine J_bind fun w32 hw32 => ?_
  refine J_cl fun x34 σ33 hσ33 => ?_
  refine q_J.step (fun g => j_if_t rfl (cc_ne_t h27) (j_aload_n rfl rfl (j_aload_n rfl rfl (j_gfl rfl hx31 (j_v1 [.ref v0, .long x31] [] rfl rfl rfl rfl rfl rfl hw32 (Or.inl rfl) (t_Mo_lineOf (by omega) hσ33) (g)))))) ?_
  refine J_ite (fun h35 => ?_) (fun h35 => ?_)
  · refine J_bind fun x36 hx36 => ?_
    refine J_bind fun x37 hx37 => ?_
    refine J_bind fun σ38 hσ38 => ?_
    refine J_bind fun w39 hw39 => ?_
    refine J_cl fun _ σ40 hσ40 => ?_
    refine J_bind fun x42 hx42 => ?_
    refine q_J.step (fun g => j_if_t rfl (cc_lt_t h35) (j_aload_n rfl rfl (j_gfr rfl hx36 (j_iload_n rfl rfl (j_aload_n rfl rfl (j_gfl rfl hx37 (j_las rfl hσ38 (j_aload_n rfl rfl (j_v0 [.ref v0] [] rfl rfl rfl rfl rfl rfl hw39 (Or.inl rfl) (t_Mo_nextToken (by omega) hσ40) (j_aload_n rfl rfl (j_gfi rfl hx42 (j_iconst (2 : Int32) rfl k32_2 (g))))))))))))) ?_
    refine J_ite (fun h43 => ?_) (fun h43 => ?_)
    · refine J_bind fun x44 hx44 => ?_
      refine q_J.step (fun g => j_icmp_t rfl (cc_eq_t h43) (j_aload_n rfl rfl (j_gfi rfl hx44 (j_bipush (120 : Int32) rfl kb_120 (g))))) ?_
      refine J_ite (fun h45 => ?_) (fun h45 => ?_)
      · refine J_bind fun w46 hw46 => ?_
        refine J_cl fun x48 σ47 hσ47 => ?_
        refine q_J.step (fun g => j_icmp_f rfl (cc_le_f h45) (j_aload_n rfl rfl (j_iconst (4 : Int32) rfl k32_4 (j_v1 [.ref v0, .int (4 : Int32)] [] rfl rfl rfl rfl rfl rfl hw46 (Or.inl rfl) (t_Mo_errs (by omega) hσ47) (g))))) ?_
        refine J_ite (fun _ => J_none) (fun hz => ?_)
        replace hz := Decidable.not_not.mp hz
        exact J_some (fun h => j_iret rfl (q_zr hz) h)
      refine J_bind fun x49 hx49 => ?_
      refine J_bind fun x50 hx50 => ?_
      refine J_bind fun σ51 hσ51 => ?_
      refine J_bind fun w52 hw52 => ?_
      refine J_cl fun _ σ53 hσ53 => ?_
      refine J_sq (fun (t0 : Int32 ⊕ Unit) (σ196 : q_H) => match t0 with | .inl r => o = .inl (some (.int r)) ∧ σ' = σ196 | .inr t195 => q_G (q_rf fo) d m_Mo_readsLine o σ' 287 [some (.ref v0), none, none, none] [] σ196) (q_J.step (fun g => j_icmp_t rfl (cc_le_t h45) (j_aload_n rfl rfl (j_gfr rfl hx49 (j_iload_n rfl rfl (j_aload_n rfl rfl (j_gfi rfl hx50 (j_ias rfl hσ51 (j_aload_n rfl rfl (j_v0 [.ref v0] [] rfl rfl rfl rfl rfl rfl hw52 (Or.inl rfl) (t_Mo_nextToken (by omega) hσ53) (g)))))))))) (l_Mo_readsLine_L161 hd v0 ((288 : Int32) + x2) (fun _ _ h => h) (fun _ _ h => h) q_FU (0 : Int32) σ53)) (fun t0 σ196 => ?_)
      cases t0 with
      | inl r203 => exact J_some (fun h => h)
      | inr t195 =>
        refine J_bind fun w197 hw197 => ?_
        refine J_cl fun _ σ198 hσ198 => ?_
        refine J_bind fun x200 hx200 => ?_
        refine J_bind fun x201 hx201 => ?_
        refine J_bind fun σ202 hσ202 => ?_
        exact J_some (fun h => j_aload_n rfl rfl (j_v0 [.ref v0] [] rfl rfl rfl rfl rfl rfl hw197 (Or.inl rfl) (t_Mo_nextToken (by omega) hσ198) (j_aload_n rfl rfl (j_gfr rfl hx200 (j_bipush (24 : Int32) rfl kb_24 (j_dup2 rfl rfl rfl (j_ial rfl hx201 (j_iconst (1 : Int32) rfl k32_1 (j_iadd rfl (j_ias rfl hσ202 (j_iconst (1 : Int32) rfl k32_1 (j_iret rfl (q_zr (Or.inr rfl)) h))))))))))))
    refine J_bind fun w204 hw204 => ?_
    refine J_cl fun x206 σ205 hσ205 => ?_
    refine q_J.step (fun g => j_icmp_f rfl (cc_eq_f h43) (j_aload_n rfl rfl (j_iconst (1 : Int32) rfl k32_1 (j_v1 [.ref v0, .int (1 : Int32)] [] rfl rfl rfl rfl rfl rfl hw204 (Or.inl rfl) (t_Mo_errs (by omega) hσ205) (g))))) ?_
    refine J_ite (fun _ => J_none) (fun hz => ?_)
    replace hz := Decidable.not_not.mp hz
    exact J_some (fun h => j_iret rfl (q_zr hz) h)
  refine J_bind fun w207 hw207 => ?_
  refine J_cl fun x209 σ208 hσ208 => ?_
  refine q_J.step (fun g => j_if_f rfl (cc_lt_f h35) (j_aload_n rfl rfl (j_iconst (3 : Int32) rfl k32_3 (j_v1 [.ref v0, .int (3 : Int32)] [] rfl rfl rfl rfl rfl rfl hw207 (Or.inl rfl) (t_Mo_errs (by omega) hσ208) (g))))) ?_
  refine J_ite (fun _ => J_none) (fun hz => ?_)
  replace hz := Decidable.not_not.mp hz
  exact J_some (fun h => j_iret rfl (q_zr hz) h)
theorem t_Mo_readsLine {fo : Option Nat} {d : Nat} (hd : 4 ≤ d) {v0 : Nat} {σ σ1 : q_H} {r : Int32} (h : f_Mo_readsLine v0 σ = some (r, σ1)) : q_Rel (q_rf fo) q_Ms d 189 [.ref v0] σ (.inl (some (.int r))) σ1 := by
  obtain ⟨d, rfl⟩ : ∃ d1, d = d1 + 1 := ⟨d - 1, by omega⟩
  exact q_Rel.of rfl rfl (b_Mo_readsLine hd _ σ _ _ h ⟨rfl, rfl⟩)

def f_Mo_isIn (v0 : Nat) (v1 : Int32) (v2 : Int32) (v3 : Int32) (σ : q_H) : Option ((Int32) × q_H) := (q_ob σ 12 v0).bind fun w1 => q_sq (f_Mo_isThere v0 v1 σ) fun x3 σ2 => if x3 = (0 : Int32) then (some ((0 : Int32), σ2)) else (if v2 = (0 : Int32) then (some ((1 : Int32), σ2)) else (if v2 = (1 : Int32) then ((q_gr (q_gf σ2 12 v0 4)).bind fun x7 => (q_gi (q_ga σ2 20 x7 v1)).bind fun x8 => if x8 = v3 then (some ((1 : Int32), σ2)) else (if v2 = (2 : Int32) then ((q_gr (q_gf σ2 12 v0 5)).bind fun x11 => (q_gi (q_ga σ2 20 x11 v1)).bind fun x12 => if x12 = v3 then (some ((1 : Int32), σ2)) else (if v2 = (3 : Int32) then ((q_gr (q_gf σ2 12 v0 1)).bind fun x15 => (q_gr (q_gf σ2 12 v0 4)).bind fun x16 => (q_gi (q_ga σ2 20 x16 v1)).bind fun x17 => (q_gi (q_ga σ2 20 x15 x17)).bind fun x18 => if x18 = v3 then (some ((1 : Int32), σ2)) else (some ((0 : Int32), σ2))) else (some ((0 : Int32), σ2)))) else (if v2 = (3 : Int32) then ((q_gr (q_gf σ2 12 v0 1)).bind fun x21 => (q_gr (q_gf σ2 12 v0 4)).bind fun x22 => (q_gi (q_ga σ2 20 x22 v1)).bind fun x23 => (q_gi (q_ga σ2 20 x21 x23)).bind fun x24 => if x24 = v3 then (some ((1 : Int32), σ2)) else (some ((0 : Int32), σ2))) else (some ((0 : Int32), σ2))))) else (if v2 = (2 : Int32) then ((q_gr (q_gf σ2 12 v0 5)).bind fun x27 => (q_gi (q_ga σ2 20 x27 v1)).bind fun x28 => if x28 = v3 then (some ((1 : Int32), σ2)) else (if v2 = (3 : Int32) then ((q_gr (q_gf σ2 12 v0 1)).bind fun x31 => (q_gr (q_gf σ2 12 v0 4)).bind fun x32 => (q_gi (q_ga σ2 20 x32 v1)).bind fun x33 => (q_gi (q_ga σ2 20 x31 x33)).bind fun x34 => if x34 = v3 then (some ((1 : Int32), σ2)) else (some ((0 : Int32), σ2))) else (some ((0 : Int32), σ2)))) else (if v2 = (3 : Int32) then ((q_gr (q_gf σ2 12 v0 1)).bind fun x37 => (q_gr (q_gf σ2 12 v0 4)).bind fun x38 => (q_gi (q_ga σ2 20 x38 v1)).bind fun x39 => (q_gi (q_ga σ2 20 x37 x39)).bind fun x40 => if x40 = v3 then (some ((1 : Int32), σ2)) else (some ((0 : Int32), σ2))) else (some ((0 : Int32), σ2))))))
set_option maxRecDepth 100000 in
theorem b_Mo_isIn {fo : Option Nat} {d : Nat} (hd : 4 ≤ d + 1) {o : q_O} {σ' : q_H} (v0 : Nat) (v1 : Int32) (v2 : Int32) (v3 : Int32) (σ : q_H) : q_J (fun (r : Int32) (σ1 : q_H) => o = .inl (some (.int r)) ∧ σ' = σ1) (f_Mo_isIn v0 v1 v2 v3 σ) (q_G (q_rf fo) d m_Mo_isIn o σ' 0 [some (.ref v0), some (.int v1), some (.int v2), some (.int v3)] [] σ) := by
  unfold f_Mo_isIn
  refine J_bind fun w1 hw1 => ?_
  refine J_cl fun x3 σ2 hσ2 => ?_
  refine q_J.step (fun g => j_aload_n rfl rfl (j_iload_n rfl rfl (j_v1 [.ref v0, .int v1] [] rfl rfl rfl rfl rfl rfl hw1 (Or.inl rfl) (t_Mo_isThere (by omega) hσ2) (g)))) ?_
  refine J_ite (fun h4 => ?_) (fun h4 => ?_)
  · exact J_some (fun h => j_if_t rfl (cc_eq_t h4) (j_iconst (0 : Int32) rfl k32_0 (j_iret rfl (q_zr (Or.inl rfl)) h)))
  refine q_J.step (fun g => j_if_f rfl (cc_eq_f h4) (j_iload_n rfl rfl (g))) ?_
  refine J_ite (fun h5 => ?_) (fun h5 => ?_)
  · exact J_some (fun h => j_if_t rfl (cc_eq_t h5) (j_iconst (1 : Int32) rfl k32_1 (j_goto rfl (j_iret rfl (q_zr (Or.inr rfl)) h))))
  refine q_J.step (fun g => j_if_f rfl (cc_eq_f h5) (j_iload_n rfl rfl (j_iconst (1 : Int32) rfl k32_1 (g)))) ?_
  refine J_ite (fun h6 => ?_) (fun h6 => ?_)
  · refine J_bind fun x7 hx7 => ?_
    refine J_bind fun x8 hx8 => ?_
    refine q_J.step (fun g => j_icmp_f rfl (cc_ne_f h6) (j_aload_n rfl rfl (j_gfr rfl hx7 (j_iload_n rfl rfl (j_ial rfl hx8 (j_iload_n rfl rfl (g))))))) ?_
    refine J_ite (fun h9 => ?_) (fun h9 => ?_)
    · exact J_some (fun h => j_icmp_t rfl (cc_eq_t h9) (j_iconst (1 : Int32) rfl k32_1 (j_goto rfl (j_iret rfl (q_zr (Or.inr rfl)) h))))
    refine q_J.step (fun g => j_icmp_f rfl (cc_eq_f h9) (j_iload_n rfl rfl (j_iconst (2 : Int32) rfl k32_2 (g)))) ?_
    refine J_ite (fun h10 => ?_) (fun h10 => ?_)
    · refine J_bind fun x11 hx11 => ?_
      refine J_bind fun x12 hx12 => ?_
      refine q_J.step (fun g => j_icmp_f rfl (cc_ne_f h10) (j_aload_n rfl rfl (j_gfr rfl hx11 (j_iload_n rfl rfl (j_ial rfl hx12 (j_iload_n rfl rfl (g))))))) ?_
      refine J_ite (fun h13 => ?_) (fun h13 => ?_)
      · exact J_some (fun h => j_icmp_t rfl (cc_eq_t h13) (j_iconst (1 : Int32) rfl k32_1 (j_goto rfl (j_iret rfl (q_zr (Or.inr rfl)) h))))
      refine q_J.step (fun g => j_icmp_f rfl (cc_eq_f h13) (j_iload_n rfl rfl (j_iconst (3 : Int32) rfl k32_3 (g)))) ?_
      refine J_ite (fun h14 => ?_) (fun h14 => ?_)
      · refine J_bind fun x15 hx15 => ?_
        refine J_bind fun x16 hx16 => ?_
        refine J_bind fun x17 hx17 => ?_
        refine J_bind fun x18 hx18 => ?_
        refine q_J.step (fun g => j_icmp_f rfl (cc_ne_f h14) (j_aload_n rfl rfl (j_gfr rfl hx15 (j_aload_n rfl rfl (j_gfr rfl hx16 (j_iload_n rfl rfl (j_ial rfl hx17 (j_ial rfl hx18 (j_iload_n rfl rfl (g)))))))))) ?_
        refine J_ite (fun h19 => ?_) (fun h19 => ?_)
        · exact J_some (fun h => j_icmp_f rfl (cc_ne_f h19) (j_iconst (1 : Int32) rfl k32_1 (j_goto rfl (j_iret rfl (q_zr (Or.inr rfl)) h))))
        exact J_some (fun h => j_icmp_t rfl (cc_ne_t h19) (j_iconst (0 : Int32) rfl k32_0 (j_iret rfl (q_zr (Or.inl rfl)) h)))
      exact J_some (fun h => j_icmp_t rfl (cc_ne_t h14) (j_iconst (0 : Int32) rfl k32_0 (j_iret rfl (q_zr (Or.inl rfl)) h)))
    refine q_J.step (fun g => j_icmp_t rfl (cc_ne_t h10) (j_iload_n rfl rfl (j_iconst (3 : Int32) rfl k32_3 (g)))) ?_
    refine J_ite (fun h20 => ?_) (fun h20 => ?_)
    · refine J_bind fun x21 hx21 => ?_
      refine J_bind fun x22 hx22 => ?_
      refine J_bind fun x23 hx23 => ?_
      refine J_bind fun x24 hx24 => ?_
      refine q_J.step (fun g => j_icmp_f rfl (cc_ne_f h20) (j_aload_n rfl rfl (j_gfr rfl hx21 (j_aload_n rfl rfl (j_gfr rfl hx22 (j_iload_n rfl rfl (j_ial rfl hx23 (j_ial rfl hx24 (j_iload_n rfl rfl (g)))))))))) ?_
      refine J_ite (fun h25 => ?_) (fun h25 => ?_)
      · exact J_some (fun h => j_icmp_f rfl (cc_ne_f h25) (j_iconst (1 : Int32) rfl k32_1 (j_goto rfl (j_iret rfl (q_zr (Or.inr rfl)) h))))
      exact J_some (fun h => j_icmp_t rfl (cc_ne_t h25) (j_iconst (0 : Int32) rfl k32_0 (j_iret rfl (q_zr (Or.inl rfl)) h)))
    exact J_some (fun h => j_icmp_t rfl (cc_ne_t h20) (j_iconst (0 : Int32) rfl k32_0 (j_iret rfl (q_zr (Or.inl rfl)) h)))
  refine q_J.step (fun g => j_icmp_t rfl (cc_ne_t h6) (j_iload_n rfl rfl (j_iconst (2 : Int32) rfl k32_2 (g)))) ?_
  refine J_ite (fun h26 => ?_) (fun h26 => ?_)
  · refine J_bind fun x27 hx27 => ?_
    refine J_bind fun x28 hx28 => ?_
    refine q_J.step (fun g => j_icmp_f rfl (cc_ne_f h26) (j_aload_n rfl rfl (j_gfr rfl hx27 (j_iload_n rfl rfl (j_ial rfl hx28 (j_iload_n rfl rfl (g))))))) ?_
    refine J_ite (fun h29 => ?_) (fun h29 => ?_)
    · exact J_some (fun h => j_icmp_t rfl (cc_eq_t h29) (j_iconst (1 : Int32) rfl k32_1 (j_goto rfl (j_iret rfl (q_zr (Or.inr rfl)) h))))
    refine q_J.step (fun g => j_icmp_f rfl (cc_eq_f h29) (j_iload_n rfl rfl (j_iconst (3 : Int32) rfl k32_3 (g)))) ?_
    refine J_ite (fun h30 => ?_) (fun h30 => ?_)
    · refine J_bind fun x31 hx31 => ?_
      refine J_bind fun x32 hx32 => ?_
      refine J_bind fun x33 hx33 => ?_
      refine J_bind fun x34 hx34 => ?_
      refine q_J.step (fun g => j_icmp_f rfl (cc_ne_f h30) (j_aload_n rfl rfl (j_gfr rfl hx31 (j_aload_n rfl rfl (j_gfr rfl hx32 (j_iload_n rfl rfl (j_ial rfl hx33 (j_ial rfl hx34 (j_iload_n rfl rfl (g)))))))))) ?_
      refine J_ite (fun h35 => ?_) (fun h35 => ?_)
      · exact J_some (fun h => j_icmp_f rfl (cc_ne_f h35) (j_iconst (1 : Int32) rfl k32_1 (j_goto rfl (j_iret rfl (q_zr (Or.inr rfl)) h))))
      exact J_some (fun h => j_icmp_t rfl (cc_ne_t h35) (j_iconst (0 : Int32) rfl k32_0 (j_iret rfl (q_zr (Or.inl rfl)) h)))
    exact J_some (fun h => j_icmp_t rfl (cc_ne_t h30) (j_iconst (0 : Int32) rfl k32_0 (j_iret rfl (q_zr (Or.inl rfl)) h)))
  refine q_J.step (fun g => j_icmp_t rfl (cc_ne_t h26) (j_iload_n rfl rfl (j_iconst (3 : Int32) rfl k32_3 (g)))) ?_
  refine J_ite (fun h36 => ?_) (fun h36 => ?_)
  · refine J_bind fun x37 hx37 => ?_
    refine J_bind fun x38 hx38 => ?_
    refine J_bind fun x39 hx39 => ?_
    refine J_bind fun x40 hx40 => ?_
    refine q_J.step (fun g => j_icmp_f rfl (cc_ne_f h36) (j_aload_n rfl rfl (j_gfr rfl hx37 (j_aload_n rfl rfl (j_gfr rfl hx38 (j_iload_n rfl rfl (j_ial rfl hx39 (j_ial rfl hx40 (j_iload_n rfl rfl (g)))))))))) ?_
    refine J_ite (fun h41 => ?_) (fun h41 => ?_)
    · exact J_some (fun h => j_icmp_f rfl (cc_ne_f h41) (j_iconst (1 : Int32) rfl k32_1 (j_goto rfl (j_iret rfl (q_zr (Or.inr rfl)) h))))
    exact J_some (fun h => j_icmp_t rfl (cc_ne_t h41) (j_iconst (0 : Int32) rfl k32_0 (j_iret rfl (q_zr (Or.inl rfl)) h)))
  exact J_some (fun h => j_icmp_t rfl (cc_ne_t h36) (j_iconst (0 : Int32) rfl k32_0 (j_iret rfl (q_zr (Or.inl rfl)) h)))
theorem t_Mo_isIn {fo : Option Nat} {d : Nat} (hd : 4 ≤ d) {v0 : Nat} {v1 : Int32} {v2 : Int32} {v3 : Int32} {σ σ1 : q_H} {r : Int32} (h : f_Mo_isIn v0 v1 v2 v3 σ = some (r, σ1)) : q_Rel (q_rf fo) q_Ms d 206 [.ref v0, .int v1, .int v2, .int v3] σ (.inl (some (.int r))) σ1 := by
  obtain ⟨d, rfl⟩ : ∃ d1, d = d1 + 1 := ⟨d - 1, by omega⟩
  exact q_Rel.of rfl rfl (b_Mo_isIn hd _ _ _ _ σ _ _ h ⟨rfl, rfl⟩)

def f_Mo_oneOf_L48 (v0 : Nat) (v1 : Int32) (v2 : Int32) (v3 : Int32) : Nat → Int32 → q_H → Option ((Int32 ⊕ Unit) × q_H)
  | 0, _, _ => none
  | n + 1, v4, σ => (q_gr (q_gf σ 12 v0 7)).bind fun x16 => (q_gi (q_ga σ 20 x16 v3)).bind fun x17 => if v4 < x17 then ((q_ob σ 12 v0).bind fun w19 => q_sq (f_Mo_isOne v0 v1 v2 v3 v4 σ) fun x21 σ20 => if x21 = (0 : Int32) then (f_Mo_oneOf_L48 v0 v1 v2 v3 n (v4 + (1 : Int32)) σ20) else (some ((.inl v4), σ20))) else (some ((.inr ()), σ))
set_option maxRecDepth 100000 in
theorem l_Mo_oneOf_L48 {fo : Option Nat} {d : Nat} (hd : 4 ≤ d + 1) {o : q_O} {σ' : q_H} {E : (Int32 ⊕ Unit) → q_H → Prop} (v0 : Nat) (v1 : Int32) (v2 : Int32) (v3 : Int32) (hR : ∀ r σ1, E (.inl r) σ1 → o = .inl (some (.int r)) ∧ σ' = σ1) (hX : ∀ (t : Unit) σ1, E (.inr t) σ1 → q_G (q_rf fo) d m_Mo_oneOf o σ' 80 [none, none, none, none, none] [] σ1)  : ∀ (n : Nat) (v4 : Int32) (σ : q_H), q_J E (f_Mo_oneOf_L48 v0 v1 v2 v3 n v4 σ) (q_G (q_rf fo) d m_Mo_oneOf o σ' 48 [some (.ref v0), some (.int v1), some (.int v2), some (.int v3), some (.int v4)] [] σ)
  | 0, v4, σ => J_none
  | n + 1, v4, σ => by
    unfold f_Mo_oneOf_L48
    refine J_bind fun x16 hx16 => ?_
    refine J_bind fun x17 hx17 => ?_
    refine q_J.step (fun g => j_iload rfl rfl (j_aload_n rfl rfl (j_gfr rfl hx16 (j_iload_n rfl rfl (j_ial rfl hx17 (g)))))) ?_
    refine J_ite (fun h18 => ?_) (fun h18 => ?_)
    · refine J_bind fun w19 hw19 => ?_
      refine J_cl fun x21 σ20 hσ20 => ?_
      refine q_J.step (fun g => j_icmp_f rfl (cc_ge_f h18) (j_aload_n rfl rfl (j_iload_n rfl rfl (j_iload_n rfl rfl (j_iload_n rfl rfl (j_iload rfl rfl (j_v1 [.ref v0, .int v1, .int v2, .int v3, .int v4] [] rfl rfl rfl rfl rfl rfl hw19 (Or.inl rfl) (t_Mo_isOne (by omega) hσ20) (g)))))))) ?_
      refine J_ite (fun h22 => ?_) (fun h22 => ?_)
      · exact q_J.step (fun g => j_if_t rfl (cc_eq_t h22) (j_iinc [some (.ref v0), some (.int v1), some (.int v2), some (.int v3), some (.int (v4 + (1 : Int32)))] (v4 + (1 : Int32)) rfl rfl (by rw [k32_1]) (Or.inr rfl) rfl (j_goto rfl (g)))) (l_Mo_oneOf_L48 hd v0 v1 v2 v3 hR hX n (v4 + (1 : Int32)) σ20)
      exact J_some (fun h => j_if_f rfl (cc_eq_f h22) (j_iload rfl rfl (j_iret rfl rfl (hR _ _ h))))
    exact J_some (fun h => j_icmp_t rfl (cc_ge_t h18) (j_weak (l := [none, none, none, none, none]) (And.intro (Or.inl rfl) (And.intro (Or.inl rfl) (And.intro (Or.inl rfl) (And.intro (Or.inl rfl) (And.intro (Or.inl rfl) True.intro))))) (hX _ _ h)))

def f_Mo_oneOf (v0 : Nat) (v1 : Int32) (v2 : Int32) (v3 : Int32) (σ : q_H) : Option ((Int32) × q_H) := (q_ob σ 12 v0).bind fun w1 => q_sq (f_Mo_isThere v0 v3 σ) fun x3 σ2 => if x3 = (0 : Int32) then (some ((-1 : Int32), σ2)) else (if v1 = v3 then (some ((-1 : Int32), σ2)) else ((q_gr (q_gf σ2 12 v0 4)).bind fun x6 => (q_gi (q_ga σ2 20 x6 v1)).bind fun x7 => (q_gr (q_gf σ2 12 v0 4)).bind fun x8 => (q_gi (q_ga σ2 20 x8 v3)).bind fun x9 => if x7 = x9 then ((q_gr (q_gf σ2 12 v0 5)).bind fun x11 => (q_gi (q_ga σ2 20 x11 v1)).bind fun x12 => (q_gr (q_gf σ2 12 v0 5)).bind fun x13 => (q_gi (q_ga σ2 20 x13 v3)).bind fun x14 => if x12 = x14 then (some ((-1 : Int32), σ2)) else (q_sq (f_Mo_oneOf_L48 v0 v1 v2 v3 q_FU (0 : Int32) σ2) fun (t0 : Int32 ⊕ Unit) σ24 => match t0 with | .inl r25 => some (r25, σ24) | .inr t23 => (some ((-1 : Int32), σ24)))) else (some ((-1 : Int32), σ2))))
set_option maxRecDepth 100000 in
theorem b_Mo_oneOf {fo : Option Nat} {d : Nat} (hd : 4 ≤ d + 1) {o : q_O} {σ' : q_H} (v0 : Nat) (v1 : Int32) (v2 : Int32) (v3 : Int32) (σ : q_H) : q_J (fun (r : Int32) (σ1 : q_H) => o = .inl (some (.int r)) ∧ σ' = σ1) (f_Mo_oneOf v0 v1 v2 v3 σ) (q_G (q_rf fo) d m_Mo_oneOf o σ' 0 [some (.ref v0), some (.int v1), some (.int v2), some (.int v3), none] [] σ) := by
  unfold f_Mo_oneOf
  refine J_bind fun w1 hw1 => ?_
  refine J_cl fun x3 σ2 hσ2 => ?_
  refine q_J.step (fun g => j_aload_n rfl rfl (j_iload_n rfl rfl (j_v1 [.ref v0, .int v3] [] rfl rfl rfl rfl rfl rfl hw1 (Or.inl rfl) (t_Mo_isThere (by omega) hσ2) (g)))) ?_
  refine J_ite (fun h4 => ?_) (fun h4 => ?_)
  · exact J_some (fun h => j_if_t rfl (cc_eq_t h4) (j_iconst (-1 : Int32) rfl k32_m1 (j_iret rfl rfl h)))
  refine q_J.step (fun g => j_if_f rfl (cc_eq_f h4) (j_iload_n rfl rfl (j_iload_n rfl rfl (g)))) ?_
  refine J_ite (fun h5 => ?_) (fun h5 => ?_)
  · exact J_some (fun h => j_icmp_t rfl (cc_eq_t h5) (j_iconst (-1 : Int32) rfl k32_m1 (j_iret rfl rfl h)))
  refine J_bind fun x6 hx6 => ?_
  refine J_bind fun x7 hx7 => ?_
  refine J_bind fun x8 hx8 => ?_
  refine J_bind fun x9 hx9 => ?_
  refine q_J.step (fun g => j_icmp_f rfl (cc_eq_f h5) (j_aload_n rfl rfl (j_gfr rfl hx6 (j_iload_n rfl rfl (j_ial rfl hx7 (j_aload_n rfl rfl (j_gfr rfl hx8 (j_iload_n rfl rfl (j_ial rfl hx9 (g)))))))))) ?_
  refine J_ite (fun h10 => ?_) (fun h10 => ?_)
  · refine J_bind fun x11 hx11 => ?_
    refine J_bind fun x12 hx12 => ?_
    refine J_bind fun x13 hx13 => ?_
    refine J_bind fun x14 hx14 => ?_
    refine q_J.step (fun g => j_icmp_f rfl (cc_ne_f h10) (j_aload_n rfl rfl (j_gfr rfl hx11 (j_iload_n rfl rfl (j_ial rfl hx12 (j_aload_n rfl rfl (j_gfr rfl hx13 (j_iload_n rfl rfl (j_ial rfl hx14 (g)))))))))) ?_
    refine J_ite (fun h15 => ?_) (fun h15 => ?_)
    · exact J_some (fun h => j_icmp_f rfl (cc_ne_f h15) (j_iconst (-1 : Int32) rfl k32_m1 (j_iret rfl rfl h)))
    refine J_sq (fun (t0 : Int32 ⊕ Unit) (σ24 : q_H) => match t0 with | .inl r => o = .inl (some (.int r)) ∧ σ' = σ24 | .inr t23 => q_G (q_rf fo) d m_Mo_oneOf o σ' 80 [none, none, none, none, none] [] σ24) (q_J.step (fun g => j_icmp_t rfl (cc_ne_t h15) (j_iconst (0 : Int32) rfl k32_0 (j_istore [some (.ref v0), some (.int v1), some (.int v2), some (.int v3), some (.int (0 : Int32))] rfl rfl (Or.inr rfl) rfl (g)))) (l_Mo_oneOf_L48 hd v0 v1 v2 v3 (fun _ _ h => h) (fun _ _ h => h) q_FU (0 : Int32) σ2)) (fun t0 σ24 => ?_)
    cases t0 with
    | inl r25 => exact J_some (fun h => h)
    | inr t23 =>
      exact J_some (fun h => j_iconst (-1 : Int32) rfl k32_m1 (j_iret rfl rfl h))
  exact J_some (fun h => j_icmp_t rfl (cc_ne_t h10) (j_iconst (-1 : Int32) rfl k32_m1 (j_iret rfl rfl h)))
theorem t_Mo_oneOf {fo : Option Nat} {d : Nat} (hd : 4 ≤ d) {v0 : Nat} {v1 : Int32} {v2 : Int32} {v3 : Int32} {σ σ1 : q_H} {r : Int32} (h : f_Mo_oneOf v0 v1 v2 v3 σ = some (r, σ1)) : q_Rel (q_rf fo) q_Ms d 220 [.ref v0, .int v1, .int v2, .int v3] σ (.inl (some (.int r))) σ1 := by
  obtain ⟨d, rfl⟩ : ∃ d1, d = d1 + 1 := ⟨d - 1, by omega⟩
  exact q_Rel.of rfl rfl (b_Mo_oneOf hd _ _ _ _ σ _ _ h ⟨rfl, rfl⟩)

def f_Mo_fitOf_L2 (v0 : Nat) (v1 : Int32) (v2 : Int32) : Nat → Int32 → q_H → Option ((Unit) × q_H)
  | 0, _, _ => none
  | n + 1, v3, σ => if v3 < (17 : Int32) then ((q_gr (q_gf σ 12 v0 31)).bind fun x2 => (q_sa σ 20 x2 v3 (.int (0 : Int32))).bind fun σ3 => f_Mo_fitOf_L2 v0 v1 v2 n (v3 + (1 : Int32)) σ3) else (some ((), σ))
set_option maxRecDepth 100000 in
theorem l_Mo_fitOf_L2 {fo : Option Nat} {d : Nat} (hd : 4 ≤ d + 1) {o : q_O} {σ' : q_H} {E : (Unit) → q_H → Prop} (v0 : Nat) (v1 : Int32) (v2 : Int32) (hX : ∀ (t : Unit) σ1, E (t) σ1 → q_G (q_rf fo) d m_Mo_fitOf o σ' 21 [some (.ref v0), some (.int v1), some (.int v2), none, none, none, none, none, none, none, none, none] [] σ1)  : ∀ (n : Nat) (v3 : Int32) (σ : q_H), q_J E (f_Mo_fitOf_L2 v0 v1 v2 n v3 σ) (q_G (q_rf fo) d m_Mo_fitOf o σ' 2 [some (.ref v0), some (.int v1), some (.int v2), some (.int v3), none, none, none, none, none, none, none, none] [] σ)
  | 0, v3, σ => J_none
  | n + 1, v3, σ => by
    unfold f_Mo_fitOf_L2
    refine q_J.step (fun g => j_iload_n rfl rfl (j_bipush (17 : Int32) rfl kb_17 (g))) ?_
    refine J_ite (fun h1 => ?_) (fun h1 => ?_)
    · refine J_bind fun x2 hx2 => ?_
      refine J_bind fun σ3 hσ3 => ?_
      exact q_J.step (fun g => j_icmp_f rfl (cc_ge_f h1) (j_aload_n rfl rfl (j_gfr rfl hx2 (j_iload_n rfl rfl (j_iconst (0 : Int32) rfl k32_0 (j_ias rfl hσ3 (j_iinc [some (.ref v0), some (.int v1), some (.int v2), some (.int (v3 + (1 : Int32))), none, none, none, none, none, none, none, none] (v3 + (1 : Int32)) rfl rfl (by rw [k32_1]) (Or.inr rfl) rfl (j_goto rfl (g))))))))) (l_Mo_fitOf_L2 hd v0 v1 v2 hX n (v3 + (1 : Int32)) σ3)
    exact J_some (fun h => j_icmp_t rfl (cc_ge_t h1) (j_weak (l := [some (.ref v0), some (.int v1), some (.int v2), none, none, none, none, none, none, none, none, none]) (And.intro (Or.inr rfl) (And.intro (Or.inr rfl) (And.intro (Or.inr rfl) (And.intro (Or.inl rfl) (And.intro (Or.inr rfl) (And.intro (Or.inr rfl) (And.intro (Or.inr rfl) (And.intro (Or.inr rfl) (And.intro (Or.inr rfl) (And.intro (Or.inr rfl) (And.intro (Or.inr rfl) (And.intro (Or.inr rfl) True.intro)))))))))))) (hX _ _ h)))

def f_Mo_fitOf_L35 (v0 : Nat) (v1 : Int32) (v2 : Int32) (v3 : Int32) : Nat → Int32 → q_H → Option ((Unit) × q_H)
  | 0, _, _ => none
  | n + 1, v4, σ => (q_ob σ 12 v0).bind fun w7 => q_sq (f_Mo_isThere v0 v3 σ) fun x9 σ8 => if x9 = (0 : Int32) then (some ((), σ8)) else ((q_gr (q_gf σ8 12 v0 7)).bind fun x11 => (q_gi (q_ga σ8 20 x11 v3)).bind fun x12 => if v4 < (((12 : Int32) * v3) + x12) then ((q_gr (q_gf σ8 12 v0 31)).bind fun x14 => (q_gr (q_gf σ8 12 v0 9)).bind fun x15 => (q_gi (q_ga σ8 20 x15 v4)).bind fun x16 => if x16 < (80 : Int32) then ((q_gr (q_gf σ8 12 v0 9)).bind fun x18 => (q_gi (q_ga σ8 20 x18 v4)).bind fun x19 => (q_gi (q_ga σ8 20 x14 (x19 / (5 : Int32)))).bind fun x20 => (q_sa σ8 20 x14 (x19 / (5 : Int32)) (.int (x20 + (1 : Int32)))).bind fun σ21 => f_Mo_fitOf_L35 v0 v1 v2 v3 n (v4 + (1 : Int32)) σ21) else ((q_gi (q_ga σ8 20 x14 (16 : Int32))).bind fun x22 => (q_sa σ8 20 x14 (16 : Int32) (.int (x22 + (1 : Int32)))).bind fun σ23 => f_Mo_fitOf_L35 v0 v1 v2 v3 n (v4 + (1 : Int32)) σ23)) else (some ((), σ8)))
set_option maxRecDepth 100000 in
theorem l_Mo_fitOf_L35 {fo : Option Nat} {d : Nat} (hd : 4 ≤ d + 1) {o : q_O} {σ' : q_H} {E : (Unit) → q_H → Prop} (v0 : Nat) (v1 : Int32) (v2 : Int32) (v3 : Int32) (hX : ∀ (t : Unit) σ1, E (t) σ1 → q_G (q_rf fo) d m_Mo_fitOf o σ' 100 [some (.ref v0), some (.int v1), some (.int v2), some (.int v3), none, none, none, none, none, none, none, none] [] σ1)  : ∀ (n : Nat) (v4 : Int32) (σ : q_H), q_J E (f_Mo_fitOf_L35 v0 v1 v2 v3 n v4 σ) (q_G (q_rf fo) d m_Mo_fitOf o σ' 35 [some (.ref v0), some (.int v1), some (.int v2), some (.int v3), some (.int v4), none, none, none, none, none, none, none] [] σ)
  | 0, v4, σ => J_none
  | n + 1, v4, σ => by
    unfold f_Mo_fitOf_L35
    refine J_bind fun w7 hw7 => ?_
    refine J_cl fun x9 σ8 hσ8 => ?_
    refine q_J.step (fun g => j_aload_n rfl rfl (j_iload_n rfl rfl (j_v1 [.ref v0, .int v3] [] rfl rfl rfl rfl rfl rfl hw7 (Or.inl rfl) (t_Mo_isThere (by omega) hσ8) (g)))) ?_
    refine J_ite (fun h10 => ?_) (fun h10 => ?_)
    · exact J_some (fun h => j_if_t rfl (cc_eq_t h10) (j_weak (l := [some (.ref v0), some (.int v1), some (.int v2), some (.int v3), none, none, none, none, none, none, none, none]) (And.intro (Or.inr rfl) (And.intro (Or.inr rfl) (And.intro (Or.inr rfl) (And.intro (Or.inr rfl) (And.intro (Or.inl rfl) (And.intro (Or.inr rfl) (And.intro (Or.inr rfl) (And.intro (Or.inr rfl) (And.intro (Or.inr rfl) (And.intro (Or.inr rfl) (And.intro (Or.inr rfl) (And.intro (Or.inr rfl) True.intro)))))))))))) (hX _ _ h)))
    refine J_bind fun x11 hx11 => ?_
    refine J_bind fun x12 hx12 => ?_
    refine q_J.step (fun g => j_if_f rfl (cc_eq_f h10) (j_iload rfl rfl (j_bipush (12 : Int32) rfl kb_12 (j_iload_n rfl rfl (j_imul rfl (j_aload_n rfl rfl (j_gfr rfl hx11 (j_iload_n rfl rfl (j_ial rfl hx12 (j_iadd rfl (g))))))))))) ?_
    refine J_ite (fun h13 => ?_) (fun h13 => ?_)
    · refine J_bind fun x14 hx14 => ?_
      refine J_bind fun x15 hx15 => ?_
      refine J_bind fun x16 hx16 => ?_
      refine q_J.step (fun g => j_icmp_f rfl (cc_ge_f h13) (j_aload_n rfl rfl (j_gfr rfl hx14 (j_aload_n rfl rfl (j_gfr rfl hx15 (j_iload rfl rfl (j_ial rfl hx16 (j_bipush (80 : Int32) rfl kb_80 (g))))))))) ?_
      refine J_ite (fun h17 => ?_) (fun h17 => ?_)
      · refine J_bind fun x18 hx18 => ?_
        refine J_bind fun x19 hx19 => ?_
        refine J_bind fun x20 hx20 => ?_
        refine J_bind fun σ21 hσ21 => ?_
        exact q_J.step (fun g => j_icmp_t rfl (cc_lt_t h17) (j_aload_n rfl rfl (j_gfr rfl hx18 (j_iload rfl rfl (j_ial rfl hx19 (j_iconst (5 : Int32) rfl k32_5 (j_idiv rfl (by decide) (j_dup2 rfl rfl rfl (j_ial rfl hx20 (j_iconst (1 : Int32) rfl k32_1 (j_iadd rfl (j_ias rfl hσ21 (j_iinc [some (.ref v0), some (.int v1), some (.int v2), some (.int v3), some (.int (v4 + (1 : Int32))), none, none, none, none, none, none, none] (v4 + (1 : Int32)) rfl rfl (by rw [k32_1]) (Or.inr rfl) rfl (j_goto rfl (g))))))))))))))) (l_Mo_fitOf_L35 hd v0 v1 v2 v3 hX n (v4 + (1 : Int32)) σ21)
      refine J_bind fun x22 hx22 => ?_
      refine J_bind fun σ23 hσ23 => ?_
      exact q_J.step (fun g => j_icmp_f rfl (cc_lt_f h17) (j_bipush (16 : Int32) rfl kb_16 (j_goto rfl (j_dup2 rfl rfl rfl (j_ial rfl hx22 (j_iconst (1 : Int32) rfl k32_1 (j_iadd rfl (j_ias rfl hσ23 (j_iinc [some (.ref v0), some (.int v1), some (.int v2), some (.int v3), some (.int (v4 + (1 : Int32))), none, none, none, none, none, none, none] (v4 + (1 : Int32)) rfl rfl (by rw [k32_1]) (Or.inr rfl) rfl (j_goto rfl (g))))))))))) (l_Mo_fitOf_L35 hd v0 v1 v2 v3 hX n (v4 + (1 : Int32)) σ23)
    exact J_some (fun h => j_icmp_t rfl (cc_ge_t h13) (j_weak (l := [some (.ref v0), some (.int v1), some (.int v2), some (.int v3), none, none, none, none, none, none, none, none]) (And.intro (Or.inr rfl) (And.intro (Or.inr rfl) (And.intro (Or.inr rfl) (And.intro (Or.inr rfl) (And.intro (Or.inl rfl) (And.intro (Or.inr rfl) (And.intro (Or.inr rfl) (And.intro (Or.inr rfl) (And.intro (Or.inr rfl) (And.intro (Or.inr rfl) (And.intro (Or.inr rfl) (And.intro (Or.inr rfl) True.intro)))))))))))) (hX _ _ h)))

def f_Mo_fitOf_L23 (v0 : Nat) (v1 : Int32) (v2 : Int32) : Nat → Int32 → q_H → Option ((Unit) × q_H)
  | 0, _, _ => none
  | n + 1, v3, σ => if v3 < (24 : Int32) then (q_sq (f_Mo_fitOf_L35 v0 v1 v2 v3 q_FU ((12 : Int32) * v3) σ) fun (t24 : Unit) σ25 => f_Mo_fitOf_L23 v0 v1 v2 n (v3 + (1 : Int32)) σ25) else (some ((), σ))
set_option maxRecDepth 100000 in
theorem l_Mo_fitOf_L23 {fo : Option Nat} {d : Nat} (hd : 4 ≤ d + 1) {o : q_O} {σ' : q_H} {E : (Unit) → q_H → Prop} (v0 : Nat) (v1 : Int32) (v2 : Int32) (hX : ∀ (t : Unit) σ1, E (t) σ1 → q_G (q_rf fo) d m_Mo_fitOf o σ' 106 [some (.ref v0), some (.int v1), some (.int v2), none, none, none, none, none, none, none, none, none] [] σ1)  : ∀ (n : Nat) (v3 : Int32) (σ : q_H), q_J E (f_Mo_fitOf_L23 v0 v1 v2 n v3 σ) (q_G (q_rf fo) d m_Mo_fitOf o σ' 23 [some (.ref v0), some (.int v1), some (.int v2), some (.int v3), none, none, none, none, none, none, none, none] [] σ)
  | 0, v3, σ => J_none
  | n + 1, v3, σ => by
    unfold f_Mo_fitOf_L23
    refine q_J.step (fun g => j_iload_n rfl rfl (j_bipush (24 : Int32) rfl kb_24 (g))) ?_
    refine J_ite (fun h6 => ?_) (fun h6 => ?_)
    · refine J_sq (fun (t24 : Unit) (σ25 : q_H) => q_G (q_rf fo) d m_Mo_fitOf o σ' 100 [some (.ref v0), some (.int v1), some (.int v2), some (.int v3), none, none, none, none, none, none, none, none] [] σ25) (q_J.step (fun g => j_icmp_f rfl (cc_ge_f h6) (j_bipush (12 : Int32) rfl kb_12 (j_iload_n rfl rfl (j_imul rfl (j_istore [some (.ref v0), some (.int v1), some (.int v2), some (.int v3), some (.int ((12 : Int32) * v3)), none, none, none, none, none, none, none] rfl rfl (Or.inr rfl) rfl (g)))))) (l_Mo_fitOf_L35 hd v0 v1 v2 v3 (fun _ _ h => h) q_FU ((12 : Int32) * v3) σ)) (fun t24 σ25 => ?_)
      exact q_J.step (fun g => j_iinc [some (.ref v0), some (.int v1), some (.int v2), some (.int (v3 + (1 : Int32))), none, none, none, none, none, none, none, none] (v3 + (1 : Int32)) rfl rfl (by rw [k32_1]) (Or.inr rfl) rfl (j_goto rfl (g))) (l_Mo_fitOf_L23 hd v0 v1 v2 hX n (v3 + (1 : Int32)) σ25)
    exact J_some (fun h => j_icmp_t rfl (cc_ge_t h6) (j_weak (l := [some (.ref v0), some (.int v1), some (.int v2), none, none, none, none, none, none, none, none, none]) (And.intro (Or.inr rfl) (And.intro (Or.inr rfl) (And.intro (Or.inr rfl) (And.intro (Or.inl rfl) (And.intro (Or.inr rfl) (And.intro (Or.inr rfl) (And.intro (Or.inr rfl) (And.intro (Or.inr rfl) (And.intro (Or.inr rfl) (And.intro (Or.inr rfl) (And.intro (Or.inr rfl) (And.intro (Or.inr rfl) True.intro)))))))))))) (hX _ _ h)))

def f_Mo_fitOf_L114 (v0 : Nat) (v1 : Int32) (v2 : Int32) : Nat → Int64 → Int64 → Int32 → q_H → Option ((Int64 × Int64) × q_H)
  | 0, _, _, _, _ => none
  | n + 1, v3, v5, v7, σ => if v7 < (17 : Int32) then ((q_gr (q_gf σ 12 v0 31)).bind fun x29 => (q_gi (q_ga σ 20 x29 v7)).bind fun x30 => (q_ob σ 12 v0).bind fun w31 => q_sq (f_Mo_living v0 v1 v7 σ) fun x33 σ32 => f_Mo_fitOf_L114 v0 v1 v2 n (v3 + x30.toInt64) (v5 + x33.toInt64) (v7 + (1 : Int32)) σ32) else (some ((v3, v5), σ))
set_option maxRecDepth 100000 in
theorem l_Mo_fitOf_L114 {fo : Option Nat} {d : Nat} (hd : 4 ≤ d + 1) {o : q_O} {σ' : q_H} {E : (Int64 × Int64) → q_H → Prop} (v0 : Nat) (v1 : Int32) (v2 : Int32) (hX : ∀ (t : Int64 × Int64) σ1, E (t) σ1 → q_G (q_rf fo) d m_Mo_fitOf o σ' 151 [some (.ref v0), some (.int v1), some (.int v2), some (.long t.1), none, some (.long t.2), none, none, none, none, none, none] [] σ1)  : ∀ (n : Nat) (v3 : Int64) (v5 : Int64) (v7 : Int32) (σ : q_H), q_J E (f_Mo_fitOf_L114 v0 v1 v2 n v3 v5 v7 σ) (q_G (q_rf fo) d m_Mo_fitOf o σ' 114 [some (.ref v0), some (.int v1), some (.int v2), some (.long v3), none, some (.long v5), none, some (.int v7), none, none, none, none] [] σ)
  | 0, v3, v5, v7, σ => J_none
  | n + 1, v3, v5, v7, σ => by
    unfold f_Mo_fitOf_L114
    refine q_J.step (fun g => j_iload rfl rfl (j_bipush (17 : Int32) rfl kb_17 (g))) ?_
    refine J_ite (fun h28 => ?_) (fun h28 => ?_)
    · refine J_bind fun x29 hx29 => ?_
      refine J_bind fun x30 hx30 => ?_
      refine J_bind fun w31 hw31 => ?_
      refine J_cl fun x33 σ32 hσ32 => ?_
      exact q_J.step (fun g => j_icmp_f rfl (cc_ge_f h28) (j_lload_n rfl rfl (j_aload_n rfl rfl (j_gfr rfl hx29 (j_iload rfl rfl (j_ial rfl hx30 (j_i2l rfl (j_ladd rfl (j_lstore_n [some (.ref v0), some (.int v1), some (.int v2), some (.long (v3 + x30.toInt64)), none, some (.long v5), none, some (.int v7), none, none, none, none] rfl rfl (Or.inr rfl) rfl (j_lload rfl rfl (j_aload_n rfl rfl (j_iload_n rfl rfl (j_iload rfl rfl (j_v1 [.ref v0, .int v1, .int v7] [.long v5] rfl rfl rfl rfl rfl rfl hw31 (Or.inl rfl) (t_Mo_living (by omega) hσ32) (j_i2l rfl (j_ladd rfl (j_lstore [some (.ref v0), some (.int v1), some (.int v2), some (.long (v3 + x30.toInt64)), none, some (.long (v5 + x33.toInt64)), none, some (.int v7), none, none, none, none] rfl rfl (Or.inr True.intro) rfl (j_iinc [some (.ref v0), some (.int v1), some (.int v2), some (.long (v3 + x30.toInt64)), none, some (.long (v5 + x33.toInt64)), none, some (.int (v7 + (1 : Int32))), none, none, none, none] (v7 + (1 : Int32)) rfl rfl (by rw [k32_1]) (Or.inr True.intro) rfl (j_goto rfl (g)))))))))))))))))))) (l_Mo_fitOf_L114 hd v0 v1 v2 hX n (v3 + x30.toInt64) (v5 + x33.toInt64) (v7 + (1 : Int32)) σ32)
    exact J_some (fun h => j_icmp_t rfl (cc_ge_t h28) (j_weak (l := [some (.ref v0), some (.int v1), some (.int v2), some (.long v3), none, some (.long v5), none, none, none, none, none, none]) (And.intro (Or.inr rfl) (And.intro (Or.inr rfl) (And.intro (Or.inr rfl) (And.intro (Or.inr rfl) (And.intro (Or.inr rfl) (And.intro (Or.inr rfl) (And.intro (Or.inr rfl) (And.intro (Or.inl rfl) (And.intro (Or.inr rfl) (And.intro (Or.inr rfl) (And.intro (Or.inr rfl) (And.intro (Or.inr rfl) True.intro)))))))))))) (hX _ _ h)))

def f_Mo_fitOf_L157 (v0 : Nat) (v1 : Int32) (v3 : Int64) (v5 : Int64) : Nat → Int64 → Int32 → q_H → Option ((Int64) × q_H)
  | 0, _, _, _ => none
  | n + 1, v7, v9, σ => if v9 < (17 : Int32) then ((q_gr (q_gf σ 12 v0 31)).bind fun x37 => (q_gi (q_ga σ 20 x37 v9)).bind fun x38 => (q_ob σ 12 v0).bind fun w39 => q_sq (f_Mo_living v0 v1 v9 σ) fun x41 σ40 => if ((x38.toInt64 * v5) - (x41.toInt64 * v3)) < (0 : Int64) then (f_Mo_fitOf_L157 v0 v1 v3 v5 n (v7 + (-((x38.toInt64 * v5) - (x41.toInt64 * v3)))) (v9 + (1 : Int32)) σ40) else (f_Mo_fitOf_L157 v0 v1 v3 v5 n (v7 + ((x38.toInt64 * v5) - (x41.toInt64 * v3))) (v9 + (1 : Int32)) σ40)) else (some (v7, σ))
set_option maxRecDepth 100000 in
theorem l_Mo_fitOf_L157 {fo : Option Nat} {d : Nat} (hd : 4 ≤ d + 1) {o : q_O} {σ' : q_H} {E : (Int64) → q_H → Prop} (v0 : Nat) (v1 : Int32) (v3 : Int64) (v5 : Int64) (hX : ∀ (t : Int64) σ1, E (t) σ1 → q_G (q_rf fo) d m_Mo_fitOf o σ' 214 [none, none, none, none, none, none, none, some (.long t), none, none, none, none] [] σ1)  : ∀ (n : Nat) (v7 : Int64) (v9 : Int32) (σ : q_H), q_J E (f_Mo_fitOf_L157 v0 v1 v3 v5 n v7 v9 σ) (q_G (q_rf fo) d m_Mo_fitOf o σ' 157 [some (.ref v0), some (.int v1), none, some (.long v3), none, some (.long v5), none, some (.long v7), none, some (.int v9), none, none] [] σ)
  | 0, v7, v9, σ => J_none
  | n + 1, v7, v9, σ => by
    unfold f_Mo_fitOf_L157
    refine q_J.step (fun g => j_iload rfl rfl (j_bipush (17 : Int32) rfl kb_17 (g))) ?_
    refine J_ite (fun h36 => ?_) (fun h36 => ?_)
    · refine J_bind fun x37 hx37 => ?_
      refine J_bind fun x38 hx38 => ?_
      refine J_bind fun w39 hw39 => ?_
      refine J_cl fun x41 σ40 hσ40 => ?_
      refine q_J.step (fun g => j_icmp_f rfl (cc_ge_f h36) (j_aload_n rfl rfl (j_gfr rfl hx37 (j_iload rfl rfl (j_ial rfl hx38 (j_i2l rfl (j_lload rfl rfl (j_lmul rfl (j_aload_n rfl rfl (j_iload_n rfl rfl (j_iload rfl rfl (j_v1 [.ref v0, .int v1, .int v9] [.long (x38.toInt64 * v5)] rfl rfl rfl rfl rfl rfl hw39 (Or.inl rfl) (t_Mo_living (by omega) hσ40) (j_i2l rfl (j_lload_n rfl rfl (g))))))))))))))) ?_
      refine q_J.step (fun g => j_lmul rfl (j_lsub rfl (j_lstore [some (.ref v0), some (.int v1), none, some (.long v3), none, some (.long v5), none, some (.long v7), none, some (.int v9), some (.long ((x38.toInt64 * v5) - (x41.toInt64 * v3))), none] rfl rfl (Or.inr rfl) rfl (j_lload rfl rfl (j_lload rfl rfl (j_lconst (0 : Int64) rfl kl_0 (j_lcmp rfl (g)))))))) ?_
      refine J_ite (fun h42 => ?_) (fun h42 => ?_)
      · exact q_J.step (fun g => j_if_f rfl (lc_ge_f h42) (j_lload rfl rfl (j_lneg rfl (j_goto rfl (j_ladd rfl (j_lstore [some (.ref v0), some (.int v1), none, some (.long v3), none, some (.long v5), none, some (.long (v7 + (-((x38.toInt64 * v5) - (x41.toInt64 * v3))))), none, some (.int v9), some (.long ((x38.toInt64 * v5) - (x41.toInt64 * v3))), none] rfl rfl (Or.inr True.intro) rfl (j_iinc [some (.ref v0), some (.int v1), none, some (.long v3), none, some (.long v5), none, some (.long (v7 + (-((x38.toInt64 * v5) - (x41.toInt64 * v3))))), none, some (.int (v9 + (1 : Int32))), some (.long ((x38.toInt64 * v5) - (x41.toInt64 * v3))), none] (v9 + (1 : Int32)) rfl rfl (by rw [k32_1]) (Or.inr True.intro) rfl (j_goto rfl (j_weak (l := [some (.ref v0), some (.int v1), none, some (.long v3), none, some (.long v5), none, some (.long (v7 + (-((x38.toInt64 * v5) - (x41.toInt64 * v3))))), none, some (.int (v9 + (1 : Int32))), none, none]) (And.intro (Or.inr rfl) (And.intro (Or.inr rfl) (And.intro (Or.inr rfl) (And.intro (Or.inr rfl) (And.intro (Or.inr rfl) (And.intro (Or.inr rfl) (And.intro (Or.inr rfl) (And.intro (Or.inr rfl) (And.intro (Or.inr rfl) (And.intro (Or.inr rfl) (And.intro (Or.inl rfl) (And.intro (Or.inr rfl) True.intro)))))))))))) (g)))))))))) (l_Mo_fitOf_L157 hd v0 v1 v3 v5 hX n (v7 + (-((x38.toInt64 * v5) - (x41.toInt64 * v3)))) (v9 + (1 : Int32)) σ40)
      exact q_J.step (fun g => j_if_t rfl (lc_ge_t h42) (j_lload rfl rfl (j_ladd rfl (j_lstore [some (.ref v0), some (.int v1), none, some (.long v3), none, some (.long v5), none, some (.long (v7 + ((x38.toInt64 * v5) - (x41.toInt64 * v3)))), none, some (.int v9), some (.long ((x38.toInt64 * v5) - (x41.toInt64 * v3))), none] rfl rfl (Or.inr True.intro) rfl (j_iinc [some (.ref v0), some (.int v1), none, some (.long v3), none, some (.long v5), none, some (.long (v7 + ((x38.toInt64 * v5) - (x41.toInt64 * v3)))), none, some (.int (v9 + (1 : Int32))), some (.long ((x38.toInt64 * v5) - (x41.toInt64 * v3))), none] (v9 + (1 : Int32)) rfl rfl (by rw [k32_1]) (Or.inr True.intro) rfl (j_goto rfl (j_weak (l := [some (.ref v0), some (.int v1), none, some (.long v3), none, some (.long v5), none, some (.long (v7 + ((x38.toInt64 * v5) - (x41.toInt64 * v3)))), none, some (.int (v9 + (1 : Int32))), none, none]) (And.intro (Or.inr rfl) (And.intro (Or.inr rfl) (And.intro (Or.inr rfl) (And.intro (Or.inr rfl) (And.intro (Or.inr rfl) (And.intro (Or.inr rfl) (And.intro (Or.inr rfl) (And.intro (Or.inr rfl) (And.intro (Or.inr rfl) (And.intro (Or.inr rfl) (And.intro (Or.inl rfl) (And.intro (Or.inr rfl) True.intro)))))))))))) (g)))))))) (l_Mo_fitOf_L157 hd v0 v1 v3 v5 hX n (v7 + ((x38.toInt64 * v5) - (x41.toInt64 * v3))) (v9 + (1 : Int32)) σ40)
    exact J_some (fun h => j_icmp_t rfl (cc_ge_t h36) (j_weak (l := [none, none, none, none, none, none, none, some (.long v7), none, none, none, none]) (And.intro (Or.inl rfl) (And.intro (Or.inl rfl) (And.intro (Or.inr rfl) (And.intro (Or.inl rfl) (And.intro (Or.inr rfl) (And.intro (Or.inl rfl) (And.intro (Or.inr rfl) (And.intro (Or.inr rfl) (And.intro (Or.inr rfl) (And.intro (Or.inl rfl) (And.intro (Or.inr rfl) (And.intro (Or.inr rfl) True.intro)))))))))))) (hX _ _ h)))

def f_Mo_fitOf (v0 : Nat) (v1 : Int32) (v2 : Int32) (σ : q_H) : Option ((Int64) × q_H) := q_sq (f_Mo_fitOf_L2 v0 v1 v2 q_FU (0 : Int32) σ) fun (t4 : Unit) σ5 => q_sq (f_Mo_fitOf_L23 v0 v1 v2 q_FU (0 : Int32) σ5) fun (t26 : Unit) σ27 => q_sq (f_Mo_fitOf_L114 v0 v1 v2 q_FU (0 : Int64) (0 : Int64) v2 σ27) fun (t34 : Int64 × Int64) σ35 => q_sq (f_Mo_fitOf_L157 v0 v1 t34.1 t34.2 q_FU (0 : Int64) v2 σ35) fun (t43 : Int64) σ44 => some (t43, σ44)
set_option maxRecDepth 100000 in
theorem b_Mo_fitOf {fo : Option Nat} {d : Nat} (hd : 4 ≤ d + 1) {o : q_O} {σ' : q_H} (v0 : Nat) (v1 : Int32) (v2 : Int32) (σ : q_H) : q_J (fun (r : Int64) (σ1 : q_H) => o = .inl (some (.long r)) ∧ σ' = σ1) (f_Mo_fitOf v0 v1 v2 σ) (q_G (q_rf fo) d m_Mo_fitOf o σ' 0 [some (.ref v0), some (.int v1), some (.int v2), none, none, none, none, none, none, none, none, none] [] σ) := by
  unfold f_Mo_fitOf
  refine J_sq (fun (t4 : Unit) (σ5 : q_H) => q_G (q_rf fo) d m_Mo_fitOf o σ' 21 [some (.ref v0), some (.int v1), some (.int v2), none, none, none, none, none, none, none, none, none] [] σ5) (q_J.step (fun g => j_iconst (0 : Int32) rfl k32_0 (j_istore_n [some (.ref v0), some (.int v1), some (.int v2), some (.int (0 : Int32)), none, none, none, none, none, none, none, none] rfl rfl (Or.inr rfl) rfl (g))) (l_Mo_fitOf_L2 hd v0 v1 v2 (fun _ _ h => h) q_FU (0 : Int32) σ)) (fun t4 σ5 => ?_)
  refine J_sq (fun (t26 : Unit) (σ27 : q_H) => q_G (q_rf fo) d m_Mo_fitOf o σ' 106 [some (.ref v0), some (.int v1), some (.int v2), none, none, none, none, none, none, none, none, none] [] σ27) (q_J.step (fun g => j_iconst (0 : Int32) rfl k32_0 (j_istore_n [some (.ref v0), some (.int v1), some (.int v2), some (.int (0 : Int32)), none, none, none, none, none, none, none, none] rfl rfl (Or.inr rfl) rfl (g))) (l_Mo_fitOf_L23 hd v0 v1 v2 (fun _ _ h => h) q_FU (0 : Int32) σ5)) (fun t26 σ27 => ?_)
  refine J_sq (fun (t34 : Int64 × Int64) (σ35 : q_H) => q_G (q_rf fo) d m_Mo_fitOf o σ' 151 [some (.ref v0), some (.int v1), some (.int v2), some (.long t34.1), none, some (.long t34.2), none, none, none, none, none, none] [] σ35) (q_J.step (fun g => j_lconst (0 : Int64) rfl kl_0 (j_lstore_n [some (.ref v0), some (.int v1), some (.int v2), some (.long (0 : Int64)), none, none, none, none, none, none, none, none] rfl rfl (Or.inr rfl) rfl (j_lconst (0 : Int64) rfl kl_0 (j_lstore [some (.ref v0), some (.int v1), some (.int v2), some (.long (0 : Int64)), none, some (.long (0 : Int64)), none, none, none, none, none, none] rfl rfl (Or.inr True.intro) rfl (j_iload_n rfl rfl (j_istore [some (.ref v0), some (.int v1), some (.int v2), some (.long (0 : Int64)), none, some (.long (0 : Int64)), none, some (.int v2), none, none, none, none] rfl rfl (Or.inr True.intro) rfl (g))))))) (l_Mo_fitOf_L114 hd v0 v1 v2 (fun _ _ h => h) q_FU (0 : Int64) (0 : Int64) v2 σ27)) (fun t34 σ35 => ?_)
  refine J_sq (fun (t43 : Int64) (σ44 : q_H) => q_G (q_rf fo) d m_Mo_fitOf o σ' 214 [none, none, none, none, none, none, none, some (.long t43), none, none, none, none] [] σ44) (q_J.step (fun g => j_lconst (0 : Int64) rfl kl_0 (j_lstore [some (.ref v0), some (.int v1), some (.int v2), some (.long t34.1), none, some (.long t34.2), none, some (.long (0 : Int64)), none, none, none, none] rfl rfl (Or.inr True.intro) rfl (j_iload_n rfl rfl (j_istore [some (.ref v0), some (.int v1), some (.int v2), some (.long t34.1), none, some (.long t34.2), none, some (.long (0 : Int64)), none, some (.int v2), none, none] rfl rfl (Or.inr True.intro) rfl (j_weak (l := [some (.ref v0), some (.int v1), none, some (.long t34.1), none, some (.long t34.2), none, some (.long (0 : Int64)), none, some (.int v2), none, none]) (And.intro (Or.inr rfl) (And.intro (Or.inr rfl) (And.intro (Or.inl rfl) (And.intro (Or.inr rfl) (And.intro (Or.inr rfl) (And.intro (Or.inr rfl) (And.intro (Or.inr rfl) (And.intro (Or.inr rfl) (And.intro (Or.inr rfl) (And.intro (Or.inr rfl) (And.intro (Or.inr rfl) (And.intro (Or.inr rfl) True.intro)))))))))))) (g)))))) (l_Mo_fitOf_L157 hd v0 v1 t34.1 t34.2 (fun _ _ h => h) q_FU (0 : Int64) v2 σ35)) (fun t43 σ44 => ?_)
  exact J_some (fun h => j_lload rfl rfl (j_lret rfl rfl h))
theorem t_Mo_fitOf {fo : Option Nat} {d : Nat} (hd : 4 ≤ d) {v0 : Nat} {v1 : Int32} {v2 : Int32} {σ σ1 : q_H} {r : Int64} (h : f_Mo_fitOf v0 v1 v2 σ = some (r, σ1)) : q_Rel (q_rf fo) q_Ms d 238 [.ref v0, .int v1, .int v2] σ (.inl (some (.long r))) σ1 := by
  obtain ⟨d, rfl⟩ : ∃ d1, d = d1 + 1 := ⟨d - 1, by omega⟩
  exact q_Rel.of rfl rfl (b_Mo_fitOf hd _ _ _ σ _ _ h ⟨rfl, rfl⟩)

def f_Mo_readsLaw_L14 (v0 : Nat) : Nat → q_H → Option ((Int32 ⊕ Unit) × q_H)
  | 0, _ => none
  | n + 1, σ => (q_gi (q_gf σ 12 v0 21)).bind fun x4 => if x4 = (0 : Int32) then (some ((.inr ()), σ)) else ((q_ob σ 12 v0).bind fun w6 => q_sq (f_Mo_isWord v0 (8903 : Int64) σ) fun x8 σ7 => if x8 = (0 : Int32) then ((q_ob σ7 12 v0).bind fun w10 => q_sq (f_Mo_errs v0 (1 : Int32) σ7) fun x12 σ11 => if ¬ (x12 = 0 ∨ x12 = 1) then none else some ((.inl x12), σ11)) else ((q_gr (q_gf σ7 12 v0 35)).bind fun x13 => (q_gi (q_ga σ7 20 x13 (4 : Int32))).bind fun x14 => if x14 = (6 : Int32) then ((q_ob σ7 12 v0).bind fun w16 => q_sq (f_Mo_errs v0 (5 : Int32) σ7) fun x18 σ17 => if ¬ (x18 = 0 ∨ x18 = 1) then none else some ((.inl x18), σ17)) else ((q_ob σ7 12 v0).bind fun w19 => q_sq (f_Mo_nextToken v0 σ7) fun (_ : Unit) σ20 => (q_ob σ20 12 v0).bind fun w22 => q_sq (f_Mo_isWord v0 (458690 : Int64) σ20) fun x24 σ23 => if x24 = (0 : Int32) then ((q_ob σ23 12 v0).bind fun w26 => q_sq (f_Mo_errs v0 (1 : Int32) σ23) fun x28 σ27 => if ¬ (x28 = 0 ∨ x28 = 1) then none else some ((.inl x28), σ27)) else ((q_ob σ23 12 v0).bind fun w29 => q_sq (f_Mo_nextToken v0 σ23) fun (_ : Unit) σ30 => (q_gr (q_gf σ30 12 v0 36)).bind fun x32 => (q_gr (q_gf σ30 12 v0 35)).bind fun x33 => (q_gi (q_ga σ30 20 x33 (4 : Int32))).bind fun x34 => (q_gi (q_gf σ30 12 v0 39)).bind fun x35 => (q_sa σ30 20 x32 ((24 : Int32) + x34) (.int x35)).bind fun σ36 => (q_ob σ36 12 v0).bind fun w37 => q_sq (f_Mo_reads v0 σ36) fun x39 σ38 => if x39 = (0 : Int32) then (some ((.inl (0 : Int32)), σ38)) else ((q_gr (q_gf σ38 12 v0 37)).bind fun x41 => (q_gr (q_gf σ38 12 v0 35)).bind fun x42 => (q_gi (q_ga σ38 20 x42 (4 : Int32))).bind fun x43 => (q_gi (q_gf σ38 12 v0 39)).bind fun x44 => (q_sa σ38 20 x41 ((24 : Int32) + x43) (.int x44)).bind fun σ45 => (q_gr (q_gf σ45 12 v0 35)).bind fun x46 => (q_gi (q_ga σ45 20 x46 (4 : Int32))).bind fun x47 => (q_sa σ45 20 x46 (4 : Int32) (.int (x47 + (1 : Int32)))).bind fun σ48 => f_Mo_readsLaw_L14 v0 n σ48)))))
set_option maxRecDepth 100000 in
theorem l_Mo_readsLaw_L14 {fo : Option Nat} {d : Nat} (hd : 4 ≤ d + 1) {o : q_O} {σ' : q_H} {E : (Int32 ⊕ Unit) → q_H → Prop} (v0 : Nat) (hR : ∀ r σ1, E (.inl r) σ1 → o = .inl (some (.int r)) ∧ σ' = σ1) (hX : ∀ (t : Unit) σ1, E (.inr t) σ1 → q_G (q_rf fo) d m_Mo_readsLaw o σ' 136 [none] [] σ1)  : ∀ (n : Nat) (σ : q_H), q_J E (f_Mo_readsLaw_L14 v0 n σ) (q_G (q_rf fo) d m_Mo_readsLaw o σ' 14 [some (.ref v0)] [] σ)
  | 0, σ => J_none
  | n + 1, σ => by
    unfold f_Mo_readsLaw_L14
    refine J_bind fun x4 hx4 => ?_
    refine q_J.step (fun g => j_aload_n rfl rfl (j_gfi rfl hx4 (g))) ?_
    refine J_ite (fun h5 => ?_) (fun h5 => ?_)
    · exact J_some (fun h => j_if_t rfl (cc_eq_t h5) (j_weak (l := [none]) (And.intro (Or.inl rfl) True.intro) (hX _ _ h)))
    refine J_bind fun w6 hw6 => ?_
    refine J_cl fun x8 σ7 hσ7 => ?_
    refine q_J.step (fun g => j_if_f rfl (cc_eq_f h5) (j_aload_n rfl rfl (j_ldc2 (8903 : Int64) rfl kw_8903 (j_v1 [.ref v0, .long (8903 : Int64)] [] rfl rfl rfl rfl rfl rfl hw6 (Or.inl rfl) (t_Mo_isWord (by omega) hσ7) (g))))) ?_
    refine J_ite (fun h9 => ?_) (fun h9 => ?_)
    · refine J_bind fun w10 hw10 => ?_
      refine J_cl fun x12 σ11 hσ11 => ?_
      refine q_J.step (fun g => j_if_f rfl (cc_ne_f h9) (j_aload_n rfl rfl (j_iconst (1 : Int32) rfl k32_1 (j_v1 [.ref v0, .int (1 : Int32)] [] rfl rfl rfl rfl rfl rfl hw10 (Or.inl rfl) (t_Mo_errs (by omega) hσ11) (g))))) ?_
      refine J_ite (fun _ => J_none) (fun hz => ?_)
      replace hz := Decidable.not_not.mp hz
      exact J_some (fun h => j_iret rfl (q_zr hz) (hR _ _ h))
    refine J_bind fun x13 hx13 => ?_
    refine J_bind fun x14 hx14 => ?_
    refine q_J.step (fun g => j_if_t rfl (cc_ne_t h9) (j_aload_n rfl rfl (j_gfr rfl hx13 (j_iconst (4 : Int32) rfl k32_4 (j_ial rfl hx14 (j_bipush (6 : Int32) rfl kb_6 (g))))))) ?_
    refine J_ite (fun h15 => ?_) (fun h15 => ?_)
    · refine J_bind fun w16 hw16 => ?_
      refine J_cl fun x18 σ17 hσ17 => ?_
      refine q_J.step (fun g => j_icmp_f rfl (cc_ne_f h15) (j_aload_n rfl rfl (j_iconst (5 : Int32) rfl k32_5 (j_v1 [.ref v0, .int (5 : Int32)] [] rfl rfl rfl rfl rfl rfl hw16 (Or.inl rfl) (t_Mo_errs (by omega) hσ17) (g))))) ?_
      refine J_ite (fun _ => J_none) (fun hz => ?_)
      replace hz := Decidable.not_not.mp hz
      exact J_some (fun h => j_iret rfl (q_zr hz) (hR _ _ h))
    refine J_bind fun w19 hw19 => ?_
    refine J_cl fun _ σ20 hσ20 => ?_
    refine J_bind fun w22 hw22 => ?_
    refine J_cl fun x24 σ23 hσ23 => ?_
    refine q_J.step (fun g => j_icmp_t rfl (cc_ne_t h15) (j_aload_n rfl rfl (j_v0 [.ref v0] [] rfl rfl rfl rfl rfl rfl hw19 (Or.inl rfl) (t_Mo_nextToken (by omega) hσ20) (j_aload_n rfl rfl (j_ldc2 (458690 : Int64) rfl kw_458690 (j_v1 [.ref v0, .long (458690 : Int64)] [] rfl rfl rfl rfl rfl rfl hw22 (Or.inl rfl) (t_Mo_isWord (by omega) hσ23) (g))))))) ?_
    refine J_ite (fun h25 => ?_) (fun h25 => ?_)
    · refine J_bind fun w26 hw26 => ?_
      refine J_cl fun x28 σ27 hσ27 => ?_
      refine q_J.step (fun g => j_if_f rfl (cc_ne_f h25) (j_aload_n rfl rfl (j_iconst (1 : Int32) rfl k32_1 (j_v1 [.ref v0, .int (1 : Int32)] [] rfl rfl rfl rfl rfl rfl hw26 (Or.inl rfl) (t_Mo_errs (by omega) hσ27) (g))))) ?_
      refine J_ite (fun _ => J_none) (fun hz => ?_)
      replace hz := Decidable.not_not.mp hz
      exact J_some (fun h => j_iret rfl (q_zr hz) (hR _ _ h))
    refine J_bind fun w29 hw29 => ?_
    refine J_cl fun _ σ30 hσ30 => ?_
    refine J_bind fun x32 hx32 => ?_
    refine J_bind fun x33 hx33 => ?_
    refine J_bind fun x34 hx34 => ?_
    refine J_bind fun x35 hx35 => ?_
    refine J_bind fun σ36 hσ36 => ?_
    refine J_bind fun w37 hw37 => ?_
    refine J_cl fun x39 σ38 hσ38 => ?_
    refine q_J.step (fun g => j_if_t rfl (cc_ne_t h25) (j_aload_n rfl rfl (j_v0 [.ref v0] [] rfl rfl rfl rfl rfl rfl hw29 (Or.inl rfl) (t_Mo_nextToken (by omega) hσ30) (j_aload_n rfl rfl (j_gfr rfl hx32 (j_bipush (24 : Int32) rfl kb_24 (j_aload_n rfl rfl (j_gfr rfl hx33 (j_iconst (4 : Int32) rfl k32_4 (j_ial rfl hx34 (j_iadd rfl (j_aload_n rfl rfl (j_gfi rfl hx35 (j_ias rfl hσ36 (g))))))))))))))) ?_
    refine q_J.step (fun g => j_aload_n rfl rfl (j_v1 [.ref v0] [] rfl rfl rfl rfl rfl rfl hw37 (Or.inl rfl) (t_Mo_reads (by omega) hσ38) (g))) ?_
    refine J_ite (fun h40 => ?_) (fun h40 => ?_)
    · exact J_some (fun h => j_if_f rfl (cc_ne_f h40) (j_iconst (0 : Int32) rfl k32_0 (j_iret rfl (q_zr (Or.inl rfl)) (hR _ _ h))))
    refine J_bind fun x41 hx41 => ?_
    refine J_bind fun x42 hx42 => ?_
    refine J_bind fun x43 hx43 => ?_
    refine J_bind fun x44 hx44 => ?_
    refine J_bind fun σ45 hσ45 => ?_
    refine J_bind fun x46 hx46 => ?_
    refine J_bind fun x47 hx47 => ?_
    refine J_bind fun σ48 hσ48 => ?_
    exact q_J.step (fun g => j_if_t rfl (cc_ne_t h40) (j_aload_n rfl rfl (j_gfr rfl hx41 (j_bipush (24 : Int32) rfl kb_24 (j_aload_n rfl rfl (j_gfr rfl hx42 (j_iconst (4 : Int32) rfl k32_4 (j_ial rfl hx43 (j_iadd rfl (j_aload_n rfl rfl (j_gfi rfl hx44 (j_ias rfl hσ45 (j_aload_n rfl rfl (j_gfr rfl hx46 (j_iconst (4 : Int32) rfl k32_4 (j_dup2 rfl rfl rfl (j_ial rfl hx47 (j_iconst (1 : Int32) rfl k32_1 (j_iadd rfl (j_ias rfl hσ48 (j_goto rfl (g)))))))))))))))))))))) (l_Mo_readsLaw_L14 hd v0 hR hX n σ48)

def f_Mo_readsLaw (v0 : Nat) (σ : q_H) : Option ((Int32) × q_H) := (q_gr (q_gf σ 12 v0 35)).bind fun x1 => (q_sa σ 20 x1 (4 : Int32) (.int (0 : Int32))).bind fun σ2 => (q_sf σ2 12 v0 39 (.int (4000 : Int32))).bind fun σ3 => q_sq (f_Mo_readsLaw_L14 v0 q_FU σ3) fun (t0 : Int32 ⊕ Unit) σ50 => match t0 with | .inl r51 => some (r51, σ50) | .inr t49 => (some ((1 : Int32), σ50))
set_option maxRecDepth 100000 in
theorem b_Mo_readsLaw {fo : Option Nat} {d : Nat} (hd : 4 ≤ d + 1) {o : q_O} {σ' : q_H} (v0 : Nat) (σ : q_H) : q_J (fun (r : Int32) (σ1 : q_H) => o = .inl (some (.int r)) ∧ σ' = σ1) (f_Mo_readsLaw v0 σ) (q_G (q_rf fo) d m_Mo_readsLaw o σ' 0 [some (.ref v0)] [] σ) := by
  unfold f_Mo_readsLaw
  refine J_bind fun x1 hx1 => ?_
  refine J_bind fun σ2 hσ2 => ?_
  refine J_bind fun σ3 hσ3 => ?_
  refine J_sq (fun (t0 : Int32 ⊕ Unit) (σ50 : q_H) => match t0 with | .inl r => o = .inl (some (.int r)) ∧ σ' = σ50 | .inr t49 => q_G (q_rf fo) d m_Mo_readsLaw o σ' 136 [none] [] σ50) (q_J.step (fun g => j_aload_n rfl rfl (j_gfr rfl hx1 (j_iconst (4 : Int32) rfl k32_4 (j_iconst (0 : Int32) rfl k32_0 (j_ias rfl hσ2 (j_aload_n rfl rfl (j_sipush (4000 : Int32) rfl ks_4000 (j_putf rfl rfl rfl rfl hσ3 (g))))))))) (l_Mo_readsLaw_L14 hd v0 (fun _ _ h => h) (fun _ _ h => h) q_FU σ3)) (fun t0 σ50 => ?_)
  cases t0 with
  | inl r51 => exact J_some (fun h => h)
  | inr t49 =>
    exact J_some (fun h => j_iconst (1 : Int32) rfl k32_1 (j_iret rfl (q_zr (Or.inr rfl)) h))
theorem t_Mo_readsLaw {fo : Option Nat} {d : Nat} (hd : 4 ≤ d) {v0 : Nat} {σ σ1 : q_H} {r : Int32} (h : f_Mo_readsLaw v0 σ = some (r, σ1)) : q_Rel (q_rf fo) q_Ms d 249 [.ref v0] σ (.inl (some (.int r))) σ1 := by
  obtain ⟨d, rfl⟩ : ∃ d1, d = d1 + 1 := ⟨d - 1, by omega⟩
  exact q_Rel.of rfl rfl (b_Mo_readsLaw hd _ σ _ _ h ⟨rfl, rfl⟩)

def f_Mo_isLet_L74 (v0 : Nat) (v1 : Int32) (v2 : Int32) (v3 : Int32) (v4 : Int32) (v5 : Int32) (v6 : Int32) : Nat → Int32 → q_H → Option ((Unit) × q_H)
  | 0, _, _ => none
  | n + 1, v7, σ => if v7 < (4 : Int32) then ((q_gr (q_gf σ 12 v0 51)).bind fun x22 => if v6 = v7 then ((q_sa σ 20 x22 ((4 : Int32) + v7) (.int (1 : Int32))).bind fun σ24 => f_Mo_isLet_L74 v0 v1 v2 v3 v4 v5 v6 n (v7 + (1 : Int32)) σ24) else ((q_sa σ 20 x22 ((4 : Int32) + v7) (.int (0 : Int32))).bind fun σ25 => f_Mo_isLet_L74 v0 v1 v2 v3 v4 v5 v6 n (v7 + (1 : Int32)) σ25)) else (some ((), σ))
set_option maxRecDepth 100000 in
theorem l_Mo_isLet_L74 {fo : Option Nat} {d : Nat} (hd : 4 ≤ d + 1) {o : q_O} {σ' : q_H} {E : (Unit) → q_H → Prop} (v0 : Nat) (v1 : Int32) (v2 : Int32) (v3 : Int32) (v4 : Int32) (v5 : Int32) (v6 : Int32) (hX : ∀ (t : Unit) σ1, E (t) σ1 → q_G (q_rf fo) d m_Mo_isLet o σ' 107 [some (.ref v0), some (.int v1), some (.int v2), some (.int v3), some (.int v4), some (.int v5), none, none] [] σ1)  : ∀ (n : Nat) (v7 : Int32) (σ : q_H), q_J E (f_Mo_isLet_L74 v0 v1 v2 v3 v4 v5 v6 n v7 σ) (q_G (q_rf fo) d m_Mo_isLet o σ' 74 [some (.ref v0), some (.int v1), some (.int v2), some (.int v3), some (.int v4), some (.int v5), some (.int v6), some (.int v7)] [] σ)
  | 0, v7, σ => J_none
  | n + 1, v7, σ => by
    unfold f_Mo_isLet_L74
    refine q_J.step (fun g => j_iload rfl rfl (j_iconst (4 : Int32) rfl k32_4 (g))) ?_
    refine J_ite (fun h21 => ?_) (fun h21 => ?_)
    · refine J_bind fun x22 hx22 => ?_
      refine q_J.step (fun g => j_icmp_f rfl (cc_ge_f h21) (j_aload_n rfl rfl (j_gfr rfl hx22 (j_iconst (4 : Int32) rfl k32_4 (j_iload rfl rfl (j_iadd rfl (j_iload rfl rfl (j_iload rfl rfl (g))))))))) ?_
      refine J_ite (fun h23 => ?_) (fun h23 => ?_)
      · refine J_bind fun σ24 hσ24 => ?_
        exact q_J.step (fun g => j_icmp_f rfl (cc_ne_f h23) (j_iconst (1 : Int32) rfl k32_1 (j_goto rfl (j_ias rfl hσ24 (j_iinc [some (.ref v0), some (.int v1), some (.int v2), some (.int v3), some (.int v4), some (.int v5), some (.int v6), some (.int (v7 + (1 : Int32)))] (v7 + (1 : Int32)) rfl rfl (by rw [k32_1]) (Or.inr rfl) rfl (j_goto rfl (g))))))) (l_Mo_isLet_L74 hd v0 v1 v2 v3 v4 v5 v6 hX n (v7 + (1 : Int32)) σ24)
      refine J_bind fun σ25 hσ25 => ?_
      exact q_J.step (fun g => j_icmp_t rfl (cc_ne_t h23) (j_iconst (0 : Int32) rfl k32_0 (j_ias rfl hσ25 (j_iinc [some (.ref v0), some (.int v1), some (.int v2), some (.int v3), some (.int v4), some (.int v5), some (.int v6), some (.int (v7 + (1 : Int32)))] (v7 + (1 : Int32)) rfl rfl (by rw [k32_1]) (Or.inr rfl) rfl (j_goto rfl (g)))))) (l_Mo_isLet_L74 hd v0 v1 v2 v3 v4 v5 v6 hX n (v7 + (1 : Int32)) σ25)
    exact J_some (fun h => j_icmp_t rfl (cc_ge_t h21) (j_weak (l := [some (.ref v0), some (.int v1), some (.int v2), some (.int v3), some (.int v4), some (.int v5), none, none]) (And.intro (Or.inr rfl) (And.intro (Or.inr rfl) (And.intro (Or.inr rfl) (And.intro (Or.inr rfl) (And.intro (Or.inr rfl) (And.intro (Or.inr rfl) (And.intro (Or.inl rfl) (And.intro (Or.inl rfl) True.intro)))))))) (hX _ _ h)))

def f_Mo_isLet_L204 (v0 : Nat) (v1 : Int32) : Nat → Int32 → q_H → Option ((Int32 ⊕ Unit) × q_H)
  | 0, _, _ => none
  | n + 1, v7, σ => (q_gr (q_gf σ 12 v0 35)).bind fun x57 => (q_gi (q_ga σ 20 x57 v1)).bind fun x58 => if v7 < (((6 : Int32) * v1) + x58) then ((q_ob σ 12 v0).bind fun w60 => q_sq (f_Mo_worth v0 v7 σ) fun x62 σ61 => if x62 = (0 : Int32) then (f_Mo_isLet_L204 v0 v1 n (v7 + (1 : Int32)) σ61) else (some ((.inl (1 : Int32)), σ61))) else (some ((.inr ()), σ))
set_option maxRecDepth 100000 in
theorem l_Mo_isLet_L204 {fo : Option Nat} {d : Nat} (hd : 4 ≤ d + 1) {o : q_O} {σ' : q_H} {E : (Int32 ⊕ Unit) → q_H → Prop} (v0 : Nat) (v1 : Int32) (hR : ∀ r σ1, E (.inl r) σ1 → o = .inl (some (.int r)) ∧ σ' = σ1) (hX : ∀ (t : Unit) σ1, E (.inr t) σ1 → q_G (q_rf fo) d m_Mo_isLet o σ' 237 [none, none, none, none, none, none, none, none] [] σ1)  : ∀ (n : Nat) (v7 : Int32) (σ : q_H), q_J E (f_Mo_isLet_L204 v0 v1 n v7 σ) (q_G (q_rf fo) d m_Mo_isLet o σ' 204 [some (.ref v0), some (.int v1), none, none, none, none, none, some (.int v7)] [] σ)
  | 0, v7, σ => J_none
  | n + 1, v7, σ => by
    unfold f_Mo_isLet_L204
    refine J_bind fun x57 hx57 => ?_
    refine J_bind fun x58 hx58 => ?_
    refine q_J.step (fun g => j_iload rfl rfl (j_bipush (6 : Int32) rfl kb_6 (j_iload_n rfl rfl (j_imul rfl (j_aload_n rfl rfl (j_gfr rfl hx57 (j_iload_n rfl rfl (j_ial rfl hx58 (j_iadd rfl (g)))))))))) ?_
    refine J_ite (fun h59 => ?_) (fun h59 => ?_)
    · refine J_bind fun w60 hw60 => ?_
      refine J_cl fun x62 σ61 hσ61 => ?_
      refine q_J.step (fun g => j_icmp_f rfl (cc_ge_f h59) (j_aload_n rfl rfl (j_iload rfl rfl (j_v1 [.ref v0, .int v7] [] rfl rfl rfl rfl rfl rfl hw60 (Or.inl rfl) (t_Mo_worth (by omega) hσ61) (g))))) ?_
      refine J_ite (fun h63 => ?_) (fun h63 => ?_)
      · exact q_J.step (fun g => j_if_t rfl (cc_eq_t h63) (j_iinc [some (.ref v0), some (.int v1), none, none, none, none, none, some (.int (v7 + (1 : Int32)))] (v7 + (1 : Int32)) rfl rfl (by rw [k32_1]) (Or.inr True.intro) rfl (j_goto rfl (g)))) (l_Mo_isLet_L204 hd v0 v1 hR hX n (v7 + (1 : Int32)) σ61)
      exact J_some (fun h => j_if_f rfl (cc_eq_f h63) (j_iconst (1 : Int32) rfl k32_1 (j_iret rfl (q_zr (Or.inr rfl)) (hR _ _ h))))
    exact J_some (fun h => j_icmp_t rfl (cc_ge_t h59) (j_weak (l := [none, none, none, none, none, none, none, none]) (And.intro (Or.inl rfl) (And.intro (Or.inl rfl) (And.intro (Or.inr rfl) (And.intro (Or.inr rfl) (And.intro (Or.inr rfl) (And.intro (Or.inr rfl) (And.intro (Or.inr rfl) (And.intro (Or.inl rfl) True.intro)))))))) (hX _ _ h)))

def f_Mo_isLet (v0 : Nat) (v1 : Int32) (v2 : Int32) (v3 : Int32) (σ : q_H) : Option ((Int32) × q_H) := (q_ob σ 12 v0).bind fun w1 => q_sq (f_Mo_husband v0 v2 v3 σ) fun x3 σ2 => (q_ob σ2 12 v0).bind fun w4 => q_sq (f_Mo_sortOf v0 v2 v3 σ2) fun x6 σ5 => (q_gr (q_gf σ5 12 v0 51)).bind fun x7 => (q_gr (q_gf σ5 12 v0 9)).bind fun x8 => (q_gi (q_ga σ5 20 x8 x3)).bind fun x9 => (q_gr (q_gf σ5 12 v0 9)).bind fun x10 => (q_gi (q_ga σ5 20 x10 (((12 : Int32) * v2) + v3))).bind fun x11 => (q_sa σ5 20 x7 (1 : Int32) (.int (x9 - x11))).bind fun σ12 => (q_gr (q_gf σ12 12 v0 51)).bind fun x13 => (q_gr (q_gf σ12 12 v0 9)).bind fun x14 => (q_gi (q_ga σ12 20 x14 x3)).bind fun x15 => (q_sa σ12 20 x13 (2 : Int32) (.int x15)).bind fun σ16 => (q_gr (q_gf σ16 12 v0 51)).bind fun x17 => (q_gr (q_gf σ16 12 v0 9)).bind fun x18 => (q_gi (q_ga σ16 20 x18 (((12 : Int32) * v2) + v3))).bind fun x19 => (q_sa σ16 20 x17 (3 : Int32) (.int x19)).bind fun σ20 => q_sq (f_Mo_isLet_L74 v0 v1 v2 v3 (((12 : Int32) * v2) + v3) x3 x6 q_FU (0 : Int32) σ20) fun (t26 : Unit) σ27 => (q_gr (q_gf σ27 12 v0 51)).bind fun x28 => (q_ob σ27 12 v0).bind fun w29 => q_sq (f_Mo_takenOf v0 v2 v3 σ27) fun x31 σ30 => (q_sa σ30 20 x28 (8 : Int32) (.int x31)).bind fun σ32 => (q_gr (q_gf σ32 12 v0 51)).bind fun x33 => (q_ob σ32 12 v0).bind fun w34 => q_sq (f_Mo_others v0 v2 (((12 : Int32) * v2) + v3) (0 : Int32) x3 σ32) fun x36 σ35 => (q_sa σ35 20 x33 (9 : Int32) (.int x36)).bind fun σ37 => (q_gr (q_gf σ37 12 v0 51)).bind fun x38 => (q_ob σ37 12 v0).bind fun w39 => q_sq (f_Mo_others v0 v2 x3 (1 : Int32) (((12 : Int32) * v2) + v3) σ37) fun x41 σ40 => (q_sa σ40 20 x38 (10 : Int32) (.int x41)).bind fun σ42 => (q_gr (q_gf σ42 12 v0 51)).bind fun x43 => (q_gr (q_gf σ42 12 v0 4)).bind fun x44 => (q_gi (q_ga σ42 20 x44 v2)).bind fun x45 => (q_sa σ42 20 x43 (11 : Int32) (.int x45)).bind fun σ46 => (q_gr (q_gf σ46 12 v0 51)).bind fun x47 => (q_gr (q_gf σ46 12 v0 1)).bind fun x48 => (q_gr (q_gf σ46 12 v0 4)).bind fun x49 => (q_gi (q_ga σ46 20 x49 v2)).bind fun x50 => (q_gi (q_ga σ46 20 x48 x50)).bind fun x51 => (q_sa σ46 20 x47 (12 : Int32) (.int x51)).bind fun σ52 => (q_gr (q_gf σ52 12 v0 51)).bind fun x53 => (q_gr (q_gf σ52 12 v0 5)).bind fun x54 => (q_gi (q_ga σ52 20 x54 v2)).bind fun x55 => (q_sa σ52 20 x53 (13 : Int32) (.int x55)).bind fun σ56 => q_sq (f_Mo_isLet_L204 v0 v1 q_FU ((6 : Int32) * v1) σ56) fun (t0 : Int32 ⊕ Unit) σ65 => match t0 with | .inl r66 => some (r66, σ65) | .inr t64 => (some ((0 : Int32), σ65))
set_option maxRecDepth 100000 in
theorem b_Mo_isLet {fo : Option Nat} {d : Nat} (hd : 4 ≤ d + 1) {o : q_O} {σ' : q_H} (v0 : Nat) (v1 : Int32) (v2 : Int32) (v3 : Int32) (σ : q_H) : q_J (fun (r : Int32) (σ1 : q_H) => o = .inl (some (.int r)) ∧ σ' = σ1) (f_Mo_isLet v0 v1 v2 v3 σ) (q_G (q_rf fo) d m_Mo_isLet o σ' 0 [some (.ref v0), some (.int v1), some (.int v2), some (.int v3), none, none, none, none] [] σ) := by
  unfold f_Mo_isLet
  refine J_bind fun w1 hw1 => ?_
  refine J_cl fun x3 σ2 hσ2 => ?_
  refine J_bind fun w4 hw4 => ?_
  refine J_cl fun x6 σ5 hσ5 => ?_
  refine J_bind fun x7 hx7 => ?_
  refine J_bind fun x8 hx8 => ?_
  refine J_bind fun x9 hx9 => ?_
  refine J_bind fun x10 hx10 => ?_
  refine J_bind fun x11 hx11 => ?_
  refine J_bind fun σ12 hσ12 => ?_
  refine J_bind fun x13 hx13 => ?_
  refine J_bind fun x14 hx14 => ?_
  refine J_bind fun x15 hx15 => ?_
  refine J_bind fun σ16 hσ16 => ?_
  refine J_bind fun x17 hx17 => ?_
  refine J_bind fun x18 hx18 => ?_
  refine J_bind fun x19 hx19 => ?_
  refine J_bind fun σ20 hσ20 => ?_
  refine J_sq (fun (t26 : Unit) (σ27 : q_H) => q_G (q_rf fo) d m_Mo_isLet o σ' 107 [some (.ref v0), some (.int v1), some (.int v2), some (.int v3), some (.int (((12 : Int32) * v2) + v3)), some (.int x3), none, none] [] σ27) (q_J.step (fun g => j_bipush (12 : Int32) rfl kb_12 (j_iload_n rfl rfl (j_imul rfl (j_iload_n rfl rfl (j_iadd rfl (j_istore [some (.ref v0), some (.int v1), some (.int v2), some (.int v3), some (.int (((12 : Int32) * v2) + v3)), none, none, none] rfl rfl (Or.inr rfl) rfl (j_aload_n rfl rfl (j_iload_n rfl rfl (j_iload_n rfl rfl (j_v1 [.ref v0, .int v2, .int v3] [] rfl rfl rfl rfl rfl rfl hw1 (Or.inl rfl) (t_Mo_husband (by omega) hσ2) (j_istore [some (.ref v0), some (.int v1), some (.int v2), some (.int v3), some (.int (((12 : Int32) * v2) + v3)), some (.int x3), none, none] rfl rfl (Or.inr rfl) rfl (j_aload_n rfl rfl (j_iload_n rfl rfl (j_iload_n rfl rfl (j_v1 [.ref v0, .int v2, .int v3] [] rfl rfl rfl rfl rfl rfl hw4 (Or.inl rfl) (t_Mo_sortOf (by omega) hσ5) (j_istore [some (.ref v0), some (.int v1), some (.int v2), some (.int v3), some (.int (((12 : Int32) * v2) + v3)), some (.int x3), some (.int x6), none] rfl rfl (Or.inr rfl) rfl (j_aload_n rfl rfl (j_gfr rfl hx7 (j_iconst (1 : Int32) rfl k32_1 (j_aload_n rfl rfl (j_gfr rfl hx8 (j_iload rfl rfl (j_ial rfl hx9 (j_aload_n rfl rfl (j_gfr rfl hx10 (j_iload rfl rfl (j_ial rfl hx11 (j_isub rfl (j_ias rfl hσ12 (j_aload_n rfl rfl (j_gfr rfl hx13 (j_iconst (2 : Int32) rfl k32_2 (j_aload_n rfl rfl (j_gfr rfl hx14 (j_iload rfl rfl (j_ial rfl hx15 (j_ias rfl hσ16 (j_aload_n rfl rfl (j_gfr rfl hx17 (j_iconst (3 : Int32) rfl k32_3 (j_aload_n rfl rfl (j_gfr rfl hx18 (j_iload rfl rfl (j_ial rfl hx19 (j_ias rfl hσ20 (j_iconst (0 : Int32) rfl k32_0 (j_istore [some (.ref v0), some (.int v1), some (.int v2), some (.int v3), some (.int (((12 : Int32) * v2) + v3)), some (.int x3), some (.int x6), some (.int (0 : Int32))] rfl rfl (Or.inr rfl) rfl (g)))))))))))))))))))))))))))))))))))))))))))))))) (l_Mo_isLet_L74 hd v0 v1 v2 v3 (((12 : Int32) * v2) + v3) x3 x6 (fun _ _ h => h) q_FU (0 : Int32) σ20)) (fun t26 σ27 => ?_)
  refine J_bind fun x28 hx28 => ?_
  refine J_bind fun w29 hw29 => ?_
  refine J_cl fun x31 σ30 hσ30 => ?_
  refine J_bind fun σ32 hσ32 => ?_
  refine J_bind fun x33 hx33 => ?_
  refine J_bind fun w34 hw34 => ?_
  refine J_cl fun x36 σ35 hσ35 => ?_
  refine J_bind fun σ37 hσ37 => ?_
  refine J_bind fun x38 hx38 => ?_
  refine J_bind fun w39 hw39 => ?_
  refine J_cl fun x41 σ40 hσ40 => ?_
  refine J_bind fun σ42 hσ42 => ?_
  refine J_bind fun x43 hx43 => ?_
  refine J_bind fun x44 hx44 => ?_
  refine J_bind fun x45 hx45 => ?_
  refine J_bind fun σ46 hσ46 => ?_
  refine J_bind fun x47 hx47 => ?_
  refine J_bind fun x48 hx48 => ?_
  refine J_bind fun x49 hx49 => ?_
  refine J_bind fun x50 hx50 => ?_
  refine J_bind fun x51 hx51 => ?_
  refine J_bind fun σ52 hσ52 => ?_
  refine J_bind fun x53 hx53 => ?_
  refine J_bind fun x54 hx54 => ?_
  refine J_bind fun x55 hx55 => ?_
  refine J_bind fun σ56 hσ56 => ?_
  refine J_sq (fun (t0 : Int32 ⊕ Unit) (σ65 : q_H) => match t0 with | .inl r => o = .inl (some (.int r)) ∧ σ' = σ65 | .inr t64 => q_G (q_rf fo) d m_Mo_isLet o σ' 237 [none, none, none, none, none, none, none, none] [] σ65) (q_J.step (fun g => j_aload_n rfl rfl (j_gfr rfl hx28 (j_bipush (8 : Int32) rfl kb_8 (j_aload_n rfl rfl (j_iload_n rfl rfl (j_iload_n rfl rfl (j_v1 [.ref v0, .int v2, .int v3] [.int (8 : Int32), .ref x28] rfl rfl rfl rfl rfl rfl hw29 (Or.inl rfl) (t_Mo_takenOf (by omega) hσ30) (j_ias rfl hσ32 (j_aload_n rfl rfl (j_gfr rfl hx33 (j_bipush (9 : Int32) rfl kb_9 (j_aload_n rfl rfl (j_iload_n rfl rfl (j_iload rfl rfl (j_iconst (0 : Int32) rfl k32_0 (j_iload rfl rfl (j_v1 [.ref v0, .int v2, .int (((12 : Int32) * v2) + v3), .int (0 : Int32), .int x3] [.int (9 : Int32), .ref x33] rfl rfl rfl rfl rfl rfl hw34 (Or.inl rfl) (t_Mo_others (by omega) hσ35) (j_ias rfl hσ37 (j_aload_n rfl rfl (j_gfr rfl hx38 (j_bipush (10 : Int32) rfl kb_10 (j_aload_n rfl rfl (j_iload_n rfl rfl (j_iload rfl rfl (j_iconst (1 : Int32) rfl k32_1 (j_iload rfl rfl (j_v1 [.ref v0, .int v2, .int x3, .int (1 : Int32), .int (((12 : Int32) * v2) + v3)] [.int (10 : Int32), .ref x38] rfl rfl rfl rfl rfl rfl hw39 (Or.inl rfl) (t_Mo_others (by omega) hσ40) (j_ias rfl hσ42 (j_aload_n rfl rfl (j_gfr rfl hx43 (j_bipush (11 : Int32) rfl kb_11 (j_aload_n rfl rfl (j_gfr rfl hx44 (j_iload_n rfl rfl (j_ial rfl hx45 (j_ias rfl hσ46 (j_aload_n rfl rfl (j_gfr rfl hx47 (j_bipush (12 : Int32) rfl kb_12 (j_aload_n rfl rfl (j_gfr rfl hx48 (j_aload_n rfl rfl (j_gfr rfl hx49 (j_iload_n rfl rfl (j_ial rfl hx50 (j_ial rfl hx51 (j_ias rfl hσ52 (j_aload_n rfl rfl (j_gfr rfl hx53 (j_bipush (13 : Int32) rfl kb_13 (j_aload_n rfl rfl (j_gfr rfl hx54 (j_iload_n rfl rfl (j_ial rfl hx55 (j_ias rfl hσ56 (j_bipush (6 : Int32) rfl kb_6 (j_iload_n rfl rfl (j_imul rfl (j_istore [some (.ref v0), some (.int v1), some (.int v2), some (.int v3), some (.int (((12 : Int32) * v2) + v3)), some (.int x3), none, some (.int ((6 : Int32) * v1))] rfl rfl (Or.inr True.intro) rfl (j_weak (l := [some (.ref v0), some (.int v1), none, none, none, none, none, some (.int ((6 : Int32) * v1))]) (And.intro (Or.inr rfl) (And.intro (Or.inr rfl) (And.intro (Or.inl rfl) (And.intro (Or.inl rfl) (And.intro (Or.inl rfl) (And.intro (Or.inl rfl) (And.intro (Or.inr rfl) (And.intro (Or.inr rfl) True.intro)))))))) (g))))))))))))))))))))))))))))))))))))))))))))))))))))))))))))) (l_Mo_isLet_L204 hd v0 v1 (fun _ _ h => h) (fun _ _ h => h) q_FU ((6 : Int32) * v1) σ56)) (fun t0 σ65 => ?_)
  cases t0 with
  | inl r66 => exact J_some (fun h => h)
  | inr t64 =>
    exact J_some (fun h => j_iconst (0 : Int32) rfl k32_0 (j_iret rfl (q_zr (Or.inl rfl)) h))
theorem t_Mo_isLet {fo : Option Nat} {d : Nat} (hd : 4 ≤ d) {v0 : Nat} {v1 : Int32} {v2 : Int32} {v3 : Int32} {σ σ1 : q_H} {r : Int32} (h : f_Mo_isLet v0 v1 v2 v3 σ = some (r, σ1)) : q_Rel (q_rf fo) q_Ms d 254 [.ref v0, .int v1, .int v2, .int v3] σ (.inl (some (.int r))) σ1 := by
  obtain ⟨d, rfl⟩ : ∃ d1, d = d1 + 1 := ⟨d - 1, by omega⟩
  exact q_Rel.of rfl rfl (b_Mo_isLet hd _ _ _ _ σ _ _ h ⟨rfl, rfl⟩)

def f_Mo_world (v0 : Nat) (v1 : Int32) (v2 : Int32) (v3 : Int32) (v4 : Int32) (v5 : Int32) (v6 : Int32) (σ : q_H) : Option ((Int32) × q_H) := (q_sf σ 12 v0 0 (.int (0 : Int32))).bind fun σ1 => q_sq (f_Mo_within v1 (0 : Int32) (9999 : Int32) σ1) fun x3 σ2 => if x3 = (0 : Int32) then (some ((-1 : Int32), σ2)) else (q_sq (f_Mo_isWorld v2 v3 v4 v5 σ2) fun x6 σ5 => if x6 = (0 : Int32) then (some ((-1 : Int32), σ5)) else (q_sq (f_Mo_within v6 (0 : Int32) (1 : Int32) σ5) fun x9 σ8 => if x9 = (0 : Int32) then (some ((-1 : Int32), σ8)) else ((q_ob σ8 12 v0).bind fun w11 => q_sq (f_Mo_runs v0 v1 v2 v3 v4 v5 σ8) fun (_ : Unit) σ12 => if v6 = (0 : Int32) then ((q_gi (q_gf σ12 12 v0 53)).bind fun x15 => some (x15, σ12)) else ((q_gi (q_gf σ12 12 v0 54)).bind fun x16 => some (x16, σ12)))))
set_option maxRecDepth 100000 in
theorem b_Mo_world {fo : Option Nat} {d : Nat} (hd : 4 ≤ d + 1) {o : q_O} {σ' : q_H} (v0 : Nat) (v1 : Int32) (v2 : Int32) (v3 : Int32) (v4 : Int32) (v5 : Int32) (v6 : Int32) (σ : q_H) : q_J (fun (r : Int32) (σ1 : q_H) => o = .inl (some (.int r)) ∧ σ' = σ1) (f_Mo_world v0 v1 v2 v3 v4 v5 v6 σ) (q_G (q_rf fo) d m_Mo_world o σ' 0 [some (.ref v0), some (.int v1), some (.int v2), some (.int v3), some (.int v4), some (.int v5), some (.int v6)] [] σ) := by
  unfold f_Mo_world
  refine J_bind fun σ1 hσ1 => ?_
  refine J_cl fun x3 σ2 hσ2 => ?_
  refine q_J.step (fun g => j_aload_n rfl rfl (j_iconst (0 : Int32) rfl k32_0 (j_putf rfl rfl rfl rfl hσ1 (j_iload_n rfl rfl (j_iconst (0 : Int32) rfl k32_0 (j_sipush (9999 : Int32) rfl ks_9999 (j_s1 [.int v1, .int (0 : Int32), .int (9999 : Int32)] [] rfl rfl rfl rfl rfl (t_Mo_within (by omega) hσ2) (g)))))))) ?_
  refine J_ite (fun h4 => ?_) (fun h4 => ?_)
  · exact J_some (fun h => j_if_t rfl (cc_eq_t h4) (j_iconst (-1 : Int32) rfl k32_m1 (j_iret rfl rfl h)))
  refine J_cl fun x6 σ5 hσ5 => ?_
  refine q_J.step (fun g => j_if_f rfl (cc_eq_f h4) (j_iload_n rfl rfl (j_iload_n rfl rfl (j_iload rfl rfl (j_iload rfl rfl (j_s1 [.int v2, .int v3, .int v4, .int v5] [] rfl rfl rfl rfl rfl (t_Mo_isWorld (by omega) hσ5) (g))))))) ?_
  refine J_ite (fun h7 => ?_) (fun h7 => ?_)
  · exact J_some (fun h => j_if_t rfl (cc_eq_t h7) (j_iconst (-1 : Int32) rfl k32_m1 (j_iret rfl rfl h)))
  refine J_cl fun x9 σ8 hσ8 => ?_
  refine q_J.step (fun g => j_if_f rfl (cc_eq_f h7) (j_iload rfl rfl (j_iconst (0 : Int32) rfl k32_0 (j_iconst (1 : Int32) rfl k32_1 (j_s1 [.int v6, .int (0 : Int32), .int (1 : Int32)] [] rfl rfl rfl rfl rfl (t_Mo_within (by omega) hσ8) (g)))))) ?_
  refine J_ite (fun h10 => ?_) (fun h10 => ?_)
  · exact J_some (fun h => j_if_f rfl (cc_ne_f h10) (j_iconst (-1 : Int32) rfl k32_m1 (j_iret rfl rfl h)))
  refine J_bind fun w11 hw11 => ?_
  refine J_cl fun _ σ12 hσ12 => ?_
  refine q_J.step (fun g => j_if_t rfl (cc_ne_t h10) (j_aload_n rfl rfl (j_iload_n rfl rfl (j_iload_n rfl rfl (j_iload_n rfl rfl (j_iload rfl rfl (j_iload rfl rfl (j_v0 [.ref v0, .int v1, .int v2, .int v3, .int v4, .int v5] [] rfl rfl rfl rfl rfl rfl hw11 (Or.inl rfl) (t_Mo_runs (by omega) hσ12) (j_iload rfl rfl (g)))))))))) ?_
  refine J_ite (fun h14 => ?_) (fun h14 => ?_)
  · refine J_bind fun x15 hx15 => ?_
    exact J_some (fun h => j_if_f rfl (cc_ne_f h14) (j_aload_n rfl rfl (j_gfi rfl hx15 (j_goto rfl (j_iret rfl rfl h)))))
  refine J_bind fun x16 hx16 => ?_
  exact J_some (fun h => j_if_t rfl (cc_ne_t h14) (j_aload_n rfl rfl (j_gfi rfl hx16 (j_iret rfl rfl h))))
theorem t_Mo_world {fo : Option Nat} {d : Nat} (hd : 4 ≤ d) {v0 : Nat} {v1 : Int32} {v2 : Int32} {v3 : Int32} {v4 : Int32} {v5 : Int32} {v6 : Int32} {σ σ1 : q_H} {r : Int32} (h : f_Mo_world v0 v1 v2 v3 v4 v5 v6 σ = some (r, σ1)) : q_Rel (q_rf fo) q_Ms d 263 [.ref v0, .int v1, .int v2, .int v3, .int v4, .int v5, .int v6] σ (.inl (some (.int r))) σ1 := by
  obtain ⟨d, rfl⟩ : ∃ d1, d = d1 + 1 := ⟨d - 1, by omega⟩
  exact q_Rel.of rfl rfl (b_Mo_world hd _ _ _ _ _ _ _ σ _ _ h ⟨rfl, rfl⟩)

def f_Mo_line (v0 : Nat) (v1 : Int32) (v2 : Int32) (v3 : Int32) (σ : q_H) : Option ((Int32) × q_H) := (q_ob σ 12 v0).bind fun w1 => q_sq (f_Mo_isLine v0 v1 v2 σ) fun x3 σ2 => if x3 = (0 : Int32) then ((q_sf σ2 12 v0 0 (.int (1 : Int32))).bind fun σ5 => (q_gi (q_gf σ5 12 v0 0)).bind fun x6 => if x6 = (1 : Int32) then (some ((0 : Int32), σ5)) else (if v3 = (0 : Int32) then ((q_gr (q_gf σ5 12 v0 8)).bind fun x9 => (q_gi (q_ga σ5 20 x9 (((12 : Int32) * v1) + v2))).bind fun x10 => some (x10, σ5)) else (if v3 = (1 : Int32) then ((q_gr (q_gf σ5 12 v0 9)).bind fun x12 => (q_gi (q_ga σ5 20 x12 (((12 : Int32) * v1) + v2))).bind fun x13 => some (x13, σ5)) else (if v3 = (2 : Int32) then ((q_gr (q_gf σ5 12 v0 9)).bind fun x15 => (q_gi (q_ga σ5 20 x15 (((12 : Int32) * v1) + v2))).bind fun x16 => q_sq (f_Mo_wide x16 σ5) fun x18 σ17 => some (x18, σ17)) else (if v3 = (3 : Int32) then ((q_gr (q_gf σ5 12 v0 10)).bind fun x20 => (q_gi (q_ga σ5 20 x20 (((12 : Int32) * v1) + v2))).bind fun x21 => some (x21, σ5)) else (if v3 = (4 : Int32) then ((q_gr (q_gf σ5 12 v0 11)).bind fun x23 => (q_gi (q_ga σ5 20 x23 (((12 : Int32) * v1) + v2))).bind fun x24 => some (x24, σ5)) else ((q_gr (q_gf σ5 12 v0 12)).bind fun x25 => (q_gi (q_ga σ5 20 x25 (((12 : Int32) * v1) + v2))).bind fun x26 => (q_gr (q_gf σ5 12 v0 14)).bind fun x27 => (q_gl' (q_ga σ5 21 x27 (((12 : Int32) * v1) + v2))).bind fun x28 => q_sq (if (0 : Int64) < x28 then (some ((16 : Int32), σ5)) else (some ((0 : Int32), σ5))) fun (t30 : Int32) σ31 => (q_gr (q_gf σ31 12 v0 15)).bind fun x32 => (q_gl' (q_ga σ31 21 x32 (((12 : Int32) * v1) + v2))).bind fun x33 => if (0 : Int64) < x33 then (some (((x26 + t30) + (32 : Int32)), σ31)) else (some (((x26 + t30) + (0 : Int32)), σ31))))))))) else (q_sq (f_Mo_within v3 (0 : Int32) (5 : Int32) σ2) fun x36 σ35 => q_sq (if x36 = (0 : Int32) then (some ((1 : Int32), σ35)) else (some ((0 : Int32), σ35))) fun (t38 : Int32) σ39 => (q_sf σ39 12 v0 0 (.int t38)).bind fun σ40 => (q_gi (q_gf σ40 12 v0 0)).bind fun x41 => if x41 = (1 : Int32) then (some ((0 : Int32), σ40)) else (if v3 = (0 : Int32) then ((q_gr (q_gf σ40 12 v0 8)).bind fun x44 => (q_gi (q_ga σ40 20 x44 (((12 : Int32) * v1) + v2))).bind fun x45 => some (x45, σ40)) else (if v3 = (1 : Int32) then ((q_gr (q_gf σ40 12 v0 9)).bind fun x47 => (q_gi (q_ga σ40 20 x47 (((12 : Int32) * v1) + v2))).bind fun x48 => some (x48, σ40)) else (if v3 = (2 : Int32) then ((q_gr (q_gf σ40 12 v0 9)).bind fun x50 => (q_gi (q_ga σ40 20 x50 (((12 : Int32) * v1) + v2))).bind fun x51 => q_sq (f_Mo_wide x51 σ40) fun x53 σ52 => some (x53, σ52)) else (if v3 = (3 : Int32) then ((q_gr (q_gf σ40 12 v0 10)).bind fun x55 => (q_gi (q_ga σ40 20 x55 (((12 : Int32) * v1) + v2))).bind fun x56 => some (x56, σ40)) else (if v3 = (4 : Int32) then ((q_gr (q_gf σ40 12 v0 11)).bind fun x58 => (q_gi (q_ga σ40 20 x58 (((12 : Int32) * v1) + v2))).bind fun x59 => some (x59, σ40)) else ((q_gr (q_gf σ40 12 v0 12)).bind fun x60 => (q_gi (q_ga σ40 20 x60 (((12 : Int32) * v1) + v2))).bind fun x61 => (q_gr (q_gf σ40 12 v0 14)).bind fun x62 => (q_gl' (q_ga σ40 21 x62 (((12 : Int32) * v1) + v2))).bind fun x63 => q_sq (if (0 : Int64) < x63 then (some ((16 : Int32), σ40)) else (some ((0 : Int32), σ40))) fun (t65 : Int32) σ66 => (q_gr (q_gf σ66 12 v0 15)).bind fun x67 => (q_gl' (q_ga σ66 21 x67 (((12 : Int32) * v1) + v2))).bind fun x68 => if (0 : Int64) < x68 then (some (((x61 + t65) + (32 : Int32)), σ66)) else (some (((x61 + t65) + (0 : Int32)), σ66)))))))))
set_option maxRecDepth 100000 in
theorem b_Mo_line {fo : Option Nat} {d : Nat} (hd : 5 ≤ d + 1) {o : q_O} {σ' : q_H} (v0 : Nat) (v1 : Int32) (v2 : Int32) (v3 : Int32) (σ : q_H) : q_J (fun (r : Int32) (σ1 : q_H) => o = .inl (some (.int r)) ∧ σ' = σ1) (f_Mo_line v0 v1 v2 v3 σ) (q_G (q_rf fo) d m_Mo_line o σ' 0 [some (.ref v0), some (.int v1), some (.int v2), some (.int v3), none] [] σ) := by
  unfold f_Mo_line
  refine J_bind fun w1 hw1 => ?_
  refine J_cl fun x3 σ2 hσ2 => ?_
  refine q_J.step (fun g => j_aload_n rfl rfl (j_aload_n rfl rfl (j_iload_n rfl rfl (j_iload_n rfl rfl (j_v1 [.ref v0, .int v1, .int v2] [.ref v0] rfl rfl rfl rfl rfl rfl hw1 (Or.inl rfl) (t_Mo_isLine (by omega) hσ2) (g)))))) ?_
  refine J_ite (fun h4 => ?_) (fun h4 => ?_)
  · refine J_bind fun σ5 hσ5 => ?_
    refine J_bind fun x6 hx6 => ?_
    refine q_J.step (fun g => j_if_t rfl (cc_eq_t h4) (j_iconst (1 : Int32) rfl k32_1 (j_putf rfl rfl rfl rfl hσ5 (j_aload_n rfl rfl (j_gfi rfl hx6 (j_iconst (1 : Int32) rfl k32_1 (g))))))) ?_
    refine J_ite (fun h7 => ?_) (fun h7 => ?_)
    · exact J_some (fun h => j_icmp_f rfl (cc_ne_f h7) (j_iconst (0 : Int32) rfl k32_0 (j_iret rfl rfl h)))
    refine q_J.step (fun g => j_icmp_t rfl (cc_ne_t h7) (j_bipush (12 : Int32) rfl kb_12 (j_iload_n rfl rfl (j_imul rfl (j_iload_n rfl rfl (j_iadd rfl (j_istore [some (.ref v0), some (.int v1), some (.int v2), some (.int v3), some (.int (((12 : Int32) * v1) + v2))] rfl rfl (Or.inr rfl) rfl (j_iload_n rfl rfl (g))))))))) ?_
    refine J_ite (fun h8 => ?_) (fun h8 => ?_)
    · refine J_bind fun x9 hx9 => ?_
      refine J_bind fun x10 hx10 => ?_
      exact J_some (fun h => j_if_f rfl (cc_ne_f h8) (j_aload_n rfl rfl (j_gfr rfl hx9 (j_iload rfl rfl (j_ial rfl hx10 (j_goto rfl (j_iret rfl rfl h)))))))
    refine q_J.step (fun g => j_if_t rfl (cc_ne_t h8) (j_iload_n rfl rfl (j_iconst (1 : Int32) rfl k32_1 (g)))) ?_
    refine J_ite (fun h11 => ?_) (fun h11 => ?_)
    · refine J_bind fun x12 hx12 => ?_
      refine J_bind fun x13 hx13 => ?_
      exact J_some (fun h => j_icmp_f rfl (cc_ne_f h11) (j_aload_n rfl rfl (j_gfr rfl hx12 (j_iload rfl rfl (j_ial rfl hx13 (j_goto rfl (j_iret rfl rfl h)))))))
    refine q_J.step (fun g => j_icmp_t rfl (cc_ne_t h11) (j_iload_n rfl rfl (j_iconst (2 : Int32) rfl k32_2 (g)))) ?_
    refine J_ite (fun h14 => ?_) (fun h14 => ?_)
    · refine J_bind fun x15 hx15 => ?_
      refine J_bind fun x16 hx16 => ?_
      refine J_cl fun x18 σ17 hσ17 => ?_
      exact J_some (fun h => j_icmp_f rfl (cc_ne_f h14) (j_aload_n rfl rfl (j_gfr rfl hx15 (j_iload rfl rfl (j_ial rfl hx16 (j_s1 [.int x16] [] rfl rfl rfl rfl rfl (t_Mo_wide (by omega) hσ17) (j_goto rfl (j_iret rfl rfl h))))))))
    refine q_J.step (fun g => j_icmp_t rfl (cc_ne_t h14) (j_iload_n rfl rfl (j_iconst (3 : Int32) rfl k32_3 (g)))) ?_
    refine J_ite (fun h19 => ?_) (fun h19 => ?_)
    · refine J_bind fun x20 hx20 => ?_
      refine J_bind fun x21 hx21 => ?_
      exact J_some (fun h => j_icmp_f rfl (cc_ne_f h19) (j_aload_n rfl rfl (j_gfr rfl hx20 (j_iload rfl rfl (j_ial rfl hx21 (j_goto rfl (j_iret rfl rfl h)))))))
    refine q_J.step (fun g => j_icmp_t rfl (cc_ne_t h19) (j_iload_n rfl rfl (j_iconst (4 : Int32) rfl k32_4 (g)))) ?_
    refine J_ite (fun h22 => ?_) (fun h22 => ?_)
    · refine J_bind fun x23 hx23 => ?_
      refine J_bind fun x24 hx24 => ?_
      exact J_some (fun h => j_icmp_f rfl (cc_ne_f h22) (j_aload_n rfl rfl (j_gfr rfl hx23 (j_iload rfl rfl (j_ial rfl hx24 (j_goto rfl (j_iret rfl rfl h)))))))
    refine J_bind fun x25 hx25 => ?_
    refine J_bind fun x26 hx26 => ?_
    refine J_bind fun x27 hx27 => ?_
    refine J_bind fun x28 hx28 => ?_
    refine q_J.step (fun g => j_icmp_t rfl (cc_ne_t h22) (j_aload_n rfl rfl (j_gfr rfl hx25 (j_iload rfl rfl (j_ial rfl hx26 (j_aload_n rfl rfl (j_gfr rfl hx27 (j_iload rfl rfl (j_lal rfl hx28 (j_lconst (0 : Int64) rfl kl_0 (j_lcmp rfl (g)))))))))))) ?_
    refine J_sq (fun (t30 : Int32) (σ31 : q_H) => q_G (q_rf fo) d m_Mo_line o σ' 147 [some (.ref v0), none, none, none, some (.int (((12 : Int32) * v1) + v2))] [.int t30, .int x26] σ31) ?_ (fun t30 σ31 => ?_)
    · refine J_ite (fun h29 => ?_) (fun h29 => ?_)
      · exact J_some (fun h => j_if_f rfl (lc_le_f h29) (j_bipush (16 : Int32) rfl kb_16 (j_goto rfl (j_weak (l := [some (.ref v0), none, none, none, some (.int (((12 : Int32) * v1) + v2))]) (And.intro (Or.inr rfl) (And.intro (Or.inl rfl) (And.intro (Or.inl rfl) (And.intro (Or.inl rfl) (And.intro (Or.inr rfl) True.intro))))) (h)))))
      exact J_some (fun h => j_if_t rfl (lc_le_t h29) (j_iconst (0 : Int32) rfl k32_0 (j_weak (l := [some (.ref v0), none, none, none, some (.int (((12 : Int32) * v1) + v2))]) (And.intro (Or.inr rfl) (And.intro (Or.inl rfl) (And.intro (Or.inl rfl) (And.intro (Or.inl rfl) (And.intro (Or.inr rfl) True.intro))))) (h))))
    refine J_bind fun x32 hx32 => ?_
    refine J_bind fun x33 hx33 => ?_
    refine q_J.step (fun g => j_iadd rfl (j_aload_n rfl rfl (j_gfr rfl hx32 (j_iload rfl rfl (j_lal rfl hx33 (j_lconst (0 : Int64) rfl kl_0 (j_lcmp rfl (g)))))))) ?_
    refine J_ite (fun h34 => ?_) (fun h34 => ?_)
    · exact J_some (fun h => j_if_f rfl (lc_le_f h34) (j_bipush (32 : Int32) rfl kb_32 (j_goto rfl (j_iadd rfl (j_iret rfl rfl h)))))
    exact J_some (fun h => j_if_t rfl (lc_le_t h34) (j_iconst (0 : Int32) rfl k32_0 (j_iadd rfl (j_iret rfl rfl h))))
  refine J_cl fun x36 σ35 hσ35 => ?_
  refine q_J.step (fun g => j_if_f rfl (cc_eq_f h4) (j_iload_n rfl rfl (j_iconst (0 : Int32) rfl k32_0 (j_iconst (5 : Int32) rfl k32_5 (j_s1 [.int v3, .int (0 : Int32), .int (5 : Int32)] [.ref v0] rfl rfl rfl rfl rfl (t_Mo_within (by omega) hσ35) (g)))))) ?_
  refine J_sq (fun (t38 : Int32) (σ39 : q_H) => q_G (q_rf fo) d m_Mo_line o σ' 24 [some (.ref v0), some (.int v1), some (.int v2), some (.int v3), none] [.int t38, .ref v0] σ39) ?_ (fun t38 σ39 => ?_)
  · refine J_ite (fun h37 => ?_) (fun h37 => ?_)
    · exact J_some (fun h => j_if_t rfl (cc_eq_t h37) (j_iconst (1 : Int32) rfl k32_1 (h)))
    exact J_some (fun h => j_if_f rfl (cc_eq_f h37) (j_iconst (0 : Int32) rfl k32_0 (j_goto rfl (h))))
  refine J_bind fun σ40 hσ40 => ?_
  refine J_bind fun x41 hx41 => ?_
  refine q_J.step (fun g => j_putf rfl rfl rfl rfl hσ40 (j_aload_n rfl rfl (j_gfi rfl hx41 (j_iconst (1 : Int32) rfl k32_1 (g))))) ?_
  refine J_ite (fun h42 => ?_) (fun h42 => ?_)
  · exact J_some (fun h => j_icmp_f rfl (cc_ne_f h42) (j_iconst (0 : Int32) rfl k32_0 (j_iret rfl rfl h)))
  refine q_J.step (fun g => j_icmp_t rfl (cc_ne_t h42) (j_bipush (12 : Int32) rfl kb_12 (j_iload_n rfl rfl (j_imul rfl (j_iload_n rfl rfl (j_iadd rfl (j_istore [some (.ref v0), some (.int v1), some (.int v2), some (.int v3), some (.int (((12 : Int32) * v1) + v2))] rfl rfl (Or.inr rfl) rfl (j_iload_n rfl rfl (g))))))))) ?_
  refine J_ite (fun h43 => ?_) (fun h43 => ?_)
  · refine J_bind fun x44 hx44 => ?_
    refine J_bind fun x45 hx45 => ?_
    exact J_some (fun h => j_if_f rfl (cc_ne_f h43) (j_aload_n rfl rfl (j_gfr rfl hx44 (j_iload rfl rfl (j_ial rfl hx45 (j_goto rfl (j_iret rfl rfl h)))))))
  refine q_J.step (fun g => j_if_t rfl (cc_ne_t h43) (j_iload_n rfl rfl (j_iconst (1 : Int32) rfl k32_1 (g)))) ?_
  refine J_ite (fun h46 => ?_) (fun h46 => ?_)
  · refine J_bind fun x47 hx47 => ?_
    refine J_bind fun x48 hx48 => ?_
    exact J_some (fun h => j_icmp_f rfl (cc_ne_f h46) (j_aload_n rfl rfl (j_gfr rfl hx47 (j_iload rfl rfl (j_ial rfl hx48 (j_goto rfl (j_iret rfl rfl h)))))))
  refine q_J.step (fun g => j_icmp_t rfl (cc_ne_t h46) (j_iload_n rfl rfl (j_iconst (2 : Int32) rfl k32_2 (g)))) ?_
  refine J_ite (fun h49 => ?_) (fun h49 => ?_)
  · refine J_bind fun x50 hx50 => ?_
    refine J_bind fun x51 hx51 => ?_
    refine J_cl fun x53 σ52 hσ52 => ?_
    exact J_some (fun h => j_icmp_f rfl (cc_ne_f h49) (j_aload_n rfl rfl (j_gfr rfl hx50 (j_iload rfl rfl (j_ial rfl hx51 (j_s1 [.int x51] [] rfl rfl rfl rfl rfl (t_Mo_wide (by omega) hσ52) (j_goto rfl (j_iret rfl rfl h))))))))
  refine q_J.step (fun g => j_icmp_t rfl (cc_ne_t h49) (j_iload_n rfl rfl (j_iconst (3 : Int32) rfl k32_3 (g)))) ?_
  refine J_ite (fun h54 => ?_) (fun h54 => ?_)
  · refine J_bind fun x55 hx55 => ?_
    refine J_bind fun x56 hx56 => ?_
    exact J_some (fun h => j_icmp_f rfl (cc_ne_f h54) (j_aload_n rfl rfl (j_gfr rfl hx55 (j_iload rfl rfl (j_ial rfl hx56 (j_goto rfl (j_iret rfl rfl h)))))))
  refine q_J.step (fun g => j_icmp_t rfl (cc_ne_t h54) (j_iload_n rfl rfl (j_iconst (4 : Int32) rfl k32_4 (g)))) ?_
  refine J_ite (fun h57 => ?_) (fun h57 => ?_)
  · refine J_bind fun x58 hx58 => ?_
    refine J_bind fun x59 hx59 => ?_
    exact J_some (fun h => j_icmp_f rfl (cc_ne_f h57) (j_aload_n rfl rfl (j_gfr rfl hx58 (j_iload rfl rfl (j_ial rfl hx59 (j_goto rfl (j_iret rfl rfl h)))))))
  refine J_bind fun x60 hx60 => ?_
  refine J_bind fun x61 hx61 => ?_
  refine J_bind fun x62 hx62 => ?_
  refine J_bind fun x63 hx63 => ?_
  refine q_J.step (fun g => j_icmp_t rfl (cc_ne_t h57) (j_aload_n rfl rfl (j_gfr rfl hx60 (j_iload rfl rfl (j_ial rfl hx61 (j_aload_n rfl rfl (j_gfr rfl hx62 (j_iload rfl rfl (j_lal rfl hx63 (j_lconst (0 : Int64) rfl kl_0 (j_lcmp rfl (g)))))))))))) ?_
  refine J_sq (fun (t65 : Int32) (σ66 : q_H) => q_G (q_rf fo) d m_Mo_line o σ' 147 [some (.ref v0), none, none, none, some (.int (((12 : Int32) * v1) + v2))] [.int t65, .int x61] σ66) ?_ (fun t65 σ66 => ?_)
  · refine J_ite (fun h64 => ?_) (fun h64 => ?_)
    · exact J_some (fun h => j_if_f rfl (lc_le_f h64) (j_bipush (16 : Int32) rfl kb_16 (j_goto rfl (j_weak (l := [some (.ref v0), none, none, none, some (.int (((12 : Int32) * v1) + v2))]) (And.intro (Or.inr rfl) (And.intro (Or.inl rfl) (And.intro (Or.inl rfl) (And.intro (Or.inl rfl) (And.intro (Or.inr rfl) True.intro))))) (h)))))
    exact J_some (fun h => j_if_t rfl (lc_le_t h64) (j_iconst (0 : Int32) rfl k32_0 (j_weak (l := [some (.ref v0), none, none, none, some (.int (((12 : Int32) * v1) + v2))]) (And.intro (Or.inr rfl) (And.intro (Or.inl rfl) (And.intro (Or.inl rfl) (And.intro (Or.inl rfl) (And.intro (Or.inr rfl) True.intro))))) (h))))
  refine J_bind fun x67 hx67 => ?_
  refine J_bind fun x68 hx68 => ?_
  refine q_J.step (fun g => j_iadd rfl (j_aload_n rfl rfl (j_gfr rfl hx67 (j_iload rfl rfl (j_lal rfl hx68 (j_lconst (0 : Int64) rfl kl_0 (j_lcmp rfl (g)))))))) ?_
  refine J_ite (fun h69 => ?_) (fun h69 => ?_)
  · exact J_some (fun h => j_if_f rfl (lc_le_f h69) (j_bipush (32 : Int32) rfl kb_32 (j_goto rfl (j_iadd rfl (j_iret rfl rfl h)))))
  exact J_some (fun h => j_if_t rfl (lc_le_t h69) (j_iconst (0 : Int32) rfl k32_0 (j_iadd rfl (j_iret rfl rfl h))))
theorem t_Mo_line {fo : Option Nat} {d : Nat} (hd : 5 ≤ d) {v0 : Nat} {v1 : Int32} {v2 : Int32} {v3 : Int32} {σ σ1 : q_H} {r : Int32} (h : f_Mo_line v0 v1 v2 v3 σ = some (r, σ1)) : q_Rel (q_rf fo) q_Ms d 179 [.ref v0, .int v1, .int v2, .int v3] σ (.inl (some (.int r))) σ1 := by
  obtain ⟨d, rfl⟩ : ∃ d1, d = d1 + 1 := ⟨d - 1, by omega⟩
  exact q_Rel.of rfl rfl (b_Mo_line hd _ _ _ _ σ _ _ h ⟨rfl, rfl⟩)

def f_Mo_read_L27 (v0 : Nat) (v1 : Int32) : Nat → q_H → Option ((Int32 ⊕ Unit) × q_H)
  | 0, _ => none
  | n + 1, σ => (q_gi (q_gf σ 12 v0 21)).bind fun x11 => if x11 = (0 : Int32) then (some ((.inr ()), σ)) else ((q_ob σ 12 v0).bind fun w13 => q_sq (f_Mo_isWord v0 (9518 : Int64) σ) fun x15 σ14 => if x15 = (0 : Int32) then ((q_ob σ14 12 v0).bind fun w17 => q_sq (f_Mo_isWord v0 (12527906 : Int64) σ14) fun x19 σ18 => q_sq (if x19 = (0 : Int32) then (some ((0 : Int32), σ18)) else (some ((1 : Int32), σ18))) fun (t21 : Int32) σ22 => q_sq (if t21 = (0 : Int32) then ((q_ob σ22 12 v0).bind fun w24 => q_sq (f_Mo_errs v0 (1 : Int32) σ22) fun x26 σ25 => some (x26, σ25)) else ((q_gr (q_gf σ22 12 v0 7)).bind fun x27 => (q_gi (q_ga σ22 20 x27 (24 : Int32))).bind fun x28 => if x28 < (12 : Int32) then (some ((1 : Int32), σ22)) else ((q_ob σ22 12 v0).bind fun w30 => q_sq (f_Mo_errs v0 (5 : Int32) σ22) fun x32 σ31 => if x32 = (0 : Int32) then (some ((0 : Int32), σ31)) else (some ((1 : Int32), σ31))))) fun (t34 : Int32) σ35 => if t34 = (0 : Int32) then ((q_gi (q_gf σ35 12 v0 24)).bind fun x37 => some ((.inl x37), σ35)) else ((q_ob σ35 12 v0).bind fun w38 => q_sq (f_Mo_readsLine v0 σ35) fun x40 σ39 => if x40 = (0 : Int32) then ((q_gi (q_gf σ39 12 v0 24)).bind fun x42 => some ((.inl x42), σ39)) else (f_Mo_read_L27 v0 v1 n σ39))) else (q_sq (if (1 : Int32) = (0 : Int32) then ((q_ob σ14 12 v0).bind fun w44 => q_sq (f_Mo_errs v0 (1 : Int32) σ14) fun x46 σ45 => some (x46, σ45)) else ((q_gr (q_gf σ14 12 v0 7)).bind fun x47 => (q_gi (q_ga σ14 20 x47 (24 : Int32))).bind fun x48 => if x48 < (12 : Int32) then (some ((1 : Int32), σ14)) else ((q_ob σ14 12 v0).bind fun w50 => q_sq (f_Mo_errs v0 (5 : Int32) σ14) fun x52 σ51 => if x52 = (0 : Int32) then (some ((0 : Int32), σ51)) else (some ((1 : Int32), σ51))))) fun (t54 : Int32) σ55 => if t54 = (0 : Int32) then ((q_gi (q_gf σ55 12 v0 24)).bind fun x57 => some ((.inl x57), σ55)) else ((q_ob σ55 12 v0).bind fun w58 => q_sq (f_Mo_readsLine v0 σ55) fun x60 σ59 => if x60 = (0 : Int32) then ((q_gi (q_gf σ59 12 v0 24)).bind fun x62 => some ((.inl x62), σ59)) else (f_Mo_read_L27 v0 v1 n σ59))))
set_option maxRecDepth 100000 in
theorem l_Mo_read_L27 {fo : Option Nat} {d : Nat} (hd : 5 ≤ d + 1) {o : q_O} {σ' : q_H} {E : (Int32 ⊕ Unit) → q_H → Prop} (v0 : Nat) (v1 : Int32) (hR : ∀ r σ1, E (.inl r) σ1 → o = .inl (some (.int r)) ∧ σ' = σ1) (hX : ∀ (t : Unit) σ1, E (.inr t) σ1 → q_G (q_rf fo) d m_Mo_read o σ' 117 [some (.ref v0), some (.int v1), none] [] σ1)  : ∀ (n : Nat) (σ : q_H), q_J E (f_Mo_read_L27 v0 v1 n σ) (q_G (q_rf fo) d m_Mo_read o σ' 27 [some (.ref v0), some (.int v1), none] [] σ)
  | 0, σ => J_none
  | n + 1, σ => by
    unfold f_Mo_read_L27
    refine J_bind fun x11 hx11 => ?_
    refine q_J.step (fun g => j_aload_n rfl rfl (j_gfi rfl hx11 (g))) ?_
    refine J_ite (fun h12 => ?_) (fun h12 => ?_)
    · exact J_some (fun h => j_if_t rfl (cc_eq_t h12) (hX _ _ h))
    refine J_bind fun w13 hw13 => ?_
    refine J_cl fun x15 σ14 hσ14 => ?_
    refine q_J.step (fun g => j_if_f rfl (cc_eq_f h12) (j_aload_n rfl rfl (j_ldc2 (9518 : Int64) rfl kw_9518 (j_v1 [.ref v0, .long (9518 : Int64)] [] rfl rfl rfl rfl rfl rfl hw13 (Or.inl rfl) (t_Mo_isWord (by omega) hσ14) (g))))) ?_
    refine J_ite (fun h16 => ?_) (fun h16 => ?_)
    · refine J_bind fun w17 hw17 => ?_
      refine J_cl fun x19 σ18 hσ18 => ?_
      refine q_J.step (fun g => j_if_f rfl (cc_ne_f h16) (j_aload_n rfl rfl (j_ldc2 (12527906 : Int64) rfl kw_12527906 (j_v1 [.ref v0, .long (12527906 : Int64)] [] rfl rfl rfl rfl rfl rfl hw17 (Or.inl rfl) (t_Mo_isWord (by omega) hσ18) (g))))) ?_
      refine J_sq (fun (t21 : Int32) (σ22 : q_H) => q_G (q_rf fo) d m_Mo_read o σ' 59 [some (.ref v0), some (.int v1), none] [.int t21] σ22) ?_ (fun t21 σ22 => ?_)
      · refine J_ite (fun h20 => ?_) (fun h20 => ?_)
        · exact J_some (fun h => j_if_t rfl (cc_eq_t h20) (j_iconst (0 : Int32) rfl k32_0 (h)))
        exact J_some (fun h => j_if_f rfl (cc_eq_f h20) (j_iconst (1 : Int32) rfl k32_1 (j_goto rfl (h))))
      refine q_J.step (fun g => j_istore_n [some (.ref v0), some (.int v1), some (.int t21)] rfl rfl (Or.inr rfl) rfl (j_iload_n rfl rfl (g))) ?_
      refine J_sq (fun (t34 : Int32) (σ35 : q_H) => q_G (q_rf fo) d m_Mo_read o σ' 97 [some (.ref v0), some (.int v1), none] [.int t34] σ35) ?_ (fun t34 σ35 => ?_)
      · refine J_ite (fun h23 => ?_) (fun h23 => ?_)
        · refine J_bind fun w24 hw24 => ?_
          refine J_cl fun x26 σ25 hσ25 => ?_
          exact J_some (fun h => j_if_t rfl (cc_eq_t h23) (j_aload_n rfl rfl (j_iconst (1 : Int32) rfl k32_1 (j_v1 [.ref v0, .int (1 : Int32)] [] rfl rfl rfl rfl rfl rfl hw24 (Or.inl rfl) (t_Mo_errs (by omega) hσ25) (j_weak (l := [some (.ref v0), some (.int v1), none]) (And.intro (Or.inr rfl) (And.intro (Or.inr rfl) (And.intro (Or.inl rfl) True.intro))) (h))))))
        refine J_bind fun x27 hx27 => ?_
        refine J_bind fun x28 hx28 => ?_
        refine q_J.step (fun g => j_if_f rfl (cc_eq_f h23) (j_aload_n rfl rfl (j_gfr rfl hx27 (j_bipush (24 : Int32) rfl kb_24 (j_ial rfl hx28 (j_bipush (12 : Int32) rfl kb_12 (g))))))) ?_
        refine J_ite (fun h29 => ?_) (fun h29 => ?_)
        · exact J_some (fun h => j_icmp_t rfl (cc_lt_t h29) (j_iconst (1 : Int32) rfl k32_1 (j_goto rfl (j_weak (l := [some (.ref v0), some (.int v1), none]) (And.intro (Or.inr rfl) (And.intro (Or.inr rfl) (And.intro (Or.inl rfl) True.intro))) (h)))))
        refine J_bind fun w30 hw30 => ?_
        refine J_cl fun x32 σ31 hσ31 => ?_
        refine q_J.step (fun g => j_icmp_f rfl (cc_lt_f h29) (j_aload_n rfl rfl (j_iconst (5 : Int32) rfl k32_5 (j_v1 [.ref v0, .int (5 : Int32)] [] rfl rfl rfl rfl rfl rfl hw30 (Or.inl rfl) (t_Mo_errs (by omega) hσ31) (g))))) ?_
        refine J_ite (fun h33 => ?_) (fun h33 => ?_)
        · exact J_some (fun h => j_if_t rfl (cc_eq_t h33) (j_iconst (0 : Int32) rfl k32_0 (j_goto rfl (j_weak (l := [some (.ref v0), some (.int v1), none]) (And.intro (Or.inr rfl) (And.intro (Or.inr rfl) (And.intro (Or.inl rfl) True.intro))) (h)))))
        exact J_some (fun h => j_if_f rfl (cc_eq_f h33) (j_iconst (1 : Int32) rfl k32_1 (j_goto rfl (j_weak (l := [some (.ref v0), some (.int v1), none]) (And.intro (Or.inr rfl) (And.intro (Or.inr rfl) (And.intro (Or.inl rfl) True.intro))) (h)))))
      refine q_J.step (fun g => j_istore_n [some (.ref v0), some (.int v1), some (.int t34)] rfl rfl (Or.inr rfl) rfl (j_iload_n rfl rfl (g))) ?_
      refine J_ite (fun h36 => ?_) (fun h36 => ?_)
      · refine J_bind fun x37 hx37 => ?_
        exact J_some (fun h => j_if_t rfl (cc_eq_t h36) (j_aload_n rfl rfl (j_gfi rfl hx37 (j_iret rfl rfl (hR _ _ h)))))
      refine J_bind fun w38 hw38 => ?_
      refine J_cl fun x40 σ39 hσ39 => ?_
      refine q_J.step (fun g => j_if_f rfl (cc_eq_f h36) (j_aload_n rfl rfl (j_v1 [.ref v0] [] rfl rfl rfl rfl rfl rfl hw38 (Or.inl rfl) (t_Mo_readsLine (by omega) hσ39) (g)))) ?_
      refine J_ite (fun h41 => ?_) (fun h41 => ?_)
      · refine J_bind fun x42 hx42 => ?_
        exact J_some (fun h => j_if_f rfl (cc_ne_f h41) (j_aload_n rfl rfl (j_gfi rfl hx42 (j_iret rfl rfl (hR _ _ h)))))
      exact q_J.step (fun g => j_if_t rfl (cc_ne_t h41) (j_goto rfl (j_weak (l := [some (.ref v0), some (.int v1), none]) (And.intro (Or.inr rfl) (And.intro (Or.inr rfl) (And.intro (Or.inl rfl) True.intro))) (g)))) (l_Mo_read_L27 hd v0 v1 hR hX n σ39)
    refine q_J.step (fun g => j_if_t rfl (cc_ne_t h16) (j_iconst (1 : Int32) rfl k32_1 (j_goto rfl (j_istore_n [some (.ref v0), some (.int v1), some (.int (1 : Int32))] rfl rfl (Or.inr rfl) rfl (j_iload_n rfl rfl (g)))))) ?_
    refine J_sq (fun (t54 : Int32) (σ55 : q_H) => q_G (q_rf fo) d m_Mo_read o σ' 97 [some (.ref v0), some (.int v1), none] [.int t54] σ55) ?_ (fun t54 σ55 => ?_)
    · refine J_ite (fun h43 => ?_) (fun h43 => ?_)
      · refine J_bind fun w44 hw44 => ?_
        refine J_cl fun x46 σ45 hσ45 => ?_
        exact J_some (fun h => j_if_t rfl (cc_eq_t h43) (j_aload_n rfl rfl (j_iconst (1 : Int32) rfl k32_1 (j_v1 [.ref v0, .int (1 : Int32)] [] rfl rfl rfl rfl rfl rfl hw44 (Or.inl rfl) (t_Mo_errs (by omega) hσ45) (j_weak (l := [some (.ref v0), some (.int v1), none]) (And.intro (Or.inr rfl) (And.intro (Or.inr rfl) (And.intro (Or.inl rfl) True.intro))) (h))))))
      refine J_bind fun x47 hx47 => ?_
      refine J_bind fun x48 hx48 => ?_
      refine q_J.step (fun g => j_if_f rfl (cc_eq_f h43) (j_aload_n rfl rfl (j_gfr rfl hx47 (j_bipush (24 : Int32) rfl kb_24 (j_ial rfl hx48 (j_bipush (12 : Int32) rfl kb_12 (g))))))) ?_
      refine J_ite (fun h49 => ?_) (fun h49 => ?_)
      · exact J_some (fun h => j_icmp_t rfl (cc_lt_t h49) (j_iconst (1 : Int32) rfl k32_1 (j_goto rfl (j_weak (l := [some (.ref v0), some (.int v1), none]) (And.intro (Or.inr rfl) (And.intro (Or.inr rfl) (And.intro (Or.inl rfl) True.intro))) (h)))))
      refine J_bind fun w50 hw50 => ?_
      refine J_cl fun x52 σ51 hσ51 => ?_
      refine q_J.step (fun g => j_icmp_f rfl (cc_lt_f h49) (j_aload_n rfl rfl (j_iconst (5 : Int32) rfl k32_5 (j_v1 [.ref v0, .int (5 : Int32)] [] rfl rfl rfl rfl rfl rfl hw50 (Or.inl rfl) (t_Mo_errs (by omega) hσ51) (g))))) ?_
      refine J_ite (fun h53 => ?_) (fun h53 => ?_)
      · exact J_some (fun h => j_if_t rfl (cc_eq_t h53) (j_iconst (0 : Int32) rfl k32_0 (j_goto rfl (j_weak (l := [some (.ref v0), some (.int v1), none]) (And.intro (Or.inr rfl) (And.intro (Or.inr rfl) (And.intro (Or.inl rfl) True.intro))) (h)))))
      exact J_some (fun h => j_if_f rfl (cc_eq_f h53) (j_iconst (1 : Int32) rfl k32_1 (j_goto rfl (j_weak (l := [some (.ref v0), some (.int v1), none]) (And.intro (Or.inr rfl) (And.intro (Or.inr rfl) (And.intro (Or.inl rfl) True.intro))) (h)))))
    refine q_J.step (fun g => j_istore_n [some (.ref v0), some (.int v1), some (.int t54)] rfl rfl (Or.inr rfl) rfl (j_iload_n rfl rfl (g))) ?_
    refine J_ite (fun h56 => ?_) (fun h56 => ?_)
    · refine J_bind fun x57 hx57 => ?_
      exact J_some (fun h => j_if_t rfl (cc_eq_t h56) (j_aload_n rfl rfl (j_gfi rfl hx57 (j_iret rfl rfl (hR _ _ h)))))
    refine J_bind fun w58 hw58 => ?_
    refine J_cl fun x60 σ59 hσ59 => ?_
    refine q_J.step (fun g => j_if_f rfl (cc_eq_f h56) (j_aload_n rfl rfl (j_v1 [.ref v0] [] rfl rfl rfl rfl rfl rfl hw58 (Or.inl rfl) (t_Mo_readsLine (by omega) hσ59) (g)))) ?_
    refine J_ite (fun h61 => ?_) (fun h61 => ?_)
    · refine J_bind fun x62 hx62 => ?_
      exact J_some (fun h => j_if_f rfl (cc_ne_f h61) (j_aload_n rfl rfl (j_gfi rfl hx62 (j_iret rfl rfl (hR _ _ h)))))
    exact q_J.step (fun g => j_if_t rfl (cc_ne_t h61) (j_goto rfl (j_weak (l := [some (.ref v0), some (.int v1), none]) (And.intro (Or.inr rfl) (And.intro (Or.inr rfl) (And.intro (Or.inl rfl) True.intro))) (g)))) (l_Mo_read_L27 hd v0 v1 hR hX n σ59)

def f_Mo_read_L119 (v0 : Nat) (v1 : Int32) : Nat → Int32 → q_H → Option ((Unit) × q_H)
  | 0, _, _ => none
  | n + 1, v2, σ => if v2 < (12 : Int32) then ((q_ob σ 12 v0).bind fun w66 => q_sq (f_Mo_copies v0 ((288 : Int32) + v2) (((12 : Int32) * v1) + v2) σ) fun (_ : Unit) σ67 => f_Mo_read_L119 v0 v1 n (v2 + (1 : Int32)) σ67) else (some ((), σ))
set_option maxRecDepth 100000 in
theorem l_Mo_read_L119 {fo : Option Nat} {d : Nat} (hd : 5 ≤ d + 1) {o : q_O} {σ' : q_H} {E : (Unit) → q_H → Prop} (v0 : Nat) (v1 : Int32) (hX : ∀ (t : Unit) σ1, E (t) σ1 → q_G (q_rf fo) d m_Mo_read o σ' 146 [some (.ref v0), some (.int v1), none] [] σ1)  : ∀ (n : Nat) (v2 : Int32) (σ : q_H), q_J E (f_Mo_read_L119 v0 v1 n v2 σ) (q_G (q_rf fo) d m_Mo_read o σ' 119 [some (.ref v0), some (.int v1), some (.int v2)] [] σ)
  | 0, v2, σ => J_none
  | n + 1, v2, σ => by
    unfold f_Mo_read_L119
    refine q_J.step (fun g => j_iload_n rfl rfl (j_bipush (12 : Int32) rfl kb_12 (g))) ?_
    refine J_ite (fun h65 => ?_) (fun h65 => ?_)
    · refine J_bind fun w66 hw66 => ?_
      refine J_cl fun _ σ67 hσ67 => ?_
      exact q_J.step (fun g => j_icmp_f rfl (cc_ge_f h65) (j_aload_n rfl rfl (j_sipush (288 : Int32) rfl ks_288 (j_iload_n rfl rfl (j_iadd rfl (j_bipush (12 : Int32) rfl kb_12 (j_iload_n rfl rfl (j_imul rfl (j_iload_n rfl rfl (j_iadd rfl (j_v0 [.ref v0, .int ((288 : Int32) + v2), .int (((12 : Int32) * v1) + v2)] [] rfl rfl rfl rfl rfl rfl hw66 (Or.inl rfl) (t_Mo_copies (by omega) hσ67) (j_iinc [some (.ref v0), some (.int v1), some (.int (v2 + (1 : Int32)))] (v2 + (1 : Int32)) rfl rfl (by rw [k32_1]) (Or.inr rfl) rfl (j_goto rfl (g)))))))))))))) (l_Mo_read_L119 hd v0 v1 hX n (v2 + (1 : Int32)) σ67)
    exact J_some (fun h => j_icmp_t rfl (cc_ge_t h65) (j_weak (l := [some (.ref v0), some (.int v1), none]) (And.intro (Or.inr rfl) (And.intro (Or.inr rfl) (And.intro (Or.inl rfl) True.intro))) (hX _ _ h)))

def f_Mo_read (v0 : Nat) (v1 : Int32) (σ : q_H) : Option ((Int32) × q_H) := (q_sf σ 12 v0 0 (.int (0 : Int32))).bind fun σ1 => (q_ob σ1 12 v0).bind fun w2 => q_sq (f_Mo_starts v0 σ1) fun (_ : Unit) σ3 => (q_ob σ3 12 v0).bind fun w5 => q_sq (f_Mo_isSheet v0 v1 σ3) fun x7 σ6 => if x7 = (0 : Int32) then (some ((-1 : Int32), σ6)) else ((q_gr (q_gf σ6 12 v0 7)).bind fun x9 => (q_sa σ6 20 x9 (24 : Int32) (.int (0 : Int32))).bind fun σ10 => q_sq (f_Mo_read_L27 v0 v1 q_FU σ10) fun (t0 : Int32 ⊕ Unit) σ64 => match t0 with | .inl r77 => some (r77, σ64) | .inr t63 => (q_sq (f_Mo_read_L119 v0 v1 q_FU (0 : Int32) σ64) fun (t69 : Unit) σ70 => (q_gr (q_gf σ70 12 v0 7)).bind fun x71 => (q_gr (q_gf σ70 12 v0 7)).bind fun x72 => (q_gi (q_ga σ70 20 x72 (24 : Int32))).bind fun x73 => (q_sa σ70 20 x71 v1 (.int x73)).bind fun σ74 => (q_gr (q_gf σ74 12 v0 3)).bind fun x75 => (q_sa σ74 22 x75 v1 (.int (1 : Int32))).bind fun σ76 => some ((0 : Int32), σ76)))
set_option maxRecDepth 100000 in
theorem b_Mo_read {fo : Option Nat} {d : Nat} (hd : 5 ≤ d + 1) {o : q_O} {σ' : q_H} (v0 : Nat) (v1 : Int32) (σ : q_H) : q_J (fun (r : Int32) (σ1 : q_H) => o = .inl (some (.int r)) ∧ σ' = σ1) (f_Mo_read v0 v1 σ) (q_G (q_rf fo) d m_Mo_read o σ' 0 [some (.ref v0), some (.int v1), none] [] σ) := by
  unfold f_Mo_read
  refine J_bind fun σ1 hσ1 => ?_
  refine J_bind fun w2 hw2 => ?_
  refine J_cl fun _ σ3 hσ3 => ?_
  refine J_bind fun w5 hw5 => ?_
  refine J_cl fun x7 σ6 hσ6 => ?_
  refine q_J.step (fun g => j_aload_n rfl rfl (j_iconst (0 : Int32) rfl k32_0 (j_putf rfl rfl rfl rfl hσ1 (j_aload_n rfl rfl (j_v0 [.ref v0] [] rfl rfl rfl rfl rfl rfl hw2 (Or.inl rfl) (t_Mo_starts (by omega) hσ3) (j_aload_n rfl rfl (j_iload_n rfl rfl (j_v1 [.ref v0, .int v1] [] rfl rfl rfl rfl rfl rfl hw5 (Or.inl rfl) (t_Mo_isSheet (by omega) hσ6) (g))))))))) ?_
  refine J_ite (fun h8 => ?_) (fun h8 => ?_)
  · exact J_some (fun h => j_if_f rfl (cc_ne_f h8) (j_iconst (-1 : Int32) rfl k32_m1 (j_iret rfl rfl h)))
  refine J_bind fun x9 hx9 => ?_
  refine J_bind fun σ10 hσ10 => ?_
  refine J_sq (fun (t0 : Int32 ⊕ Unit) (σ64 : q_H) => match t0 with | .inl r => o = .inl (some (.int r)) ∧ σ' = σ64 | .inr t63 => q_G (q_rf fo) d m_Mo_read o σ' 117 [some (.ref v0), some (.int v1), none] [] σ64) (q_J.step (fun g => j_if_t rfl (cc_ne_t h8) (j_aload_n rfl rfl (j_gfr rfl hx9 (j_bipush (24 : Int32) rfl kb_24 (j_iconst (0 : Int32) rfl k32_0 (j_ias rfl hσ10 (g))))))) (l_Mo_read_L27 hd v0 v1 (fun _ _ h => h) (fun _ _ h => h) q_FU σ10)) (fun t0 σ64 => ?_)
  cases t0 with
  | inl r77 => exact J_some (fun h => h)
  | inr t63 =>
    refine J_sq (fun (t69 : Unit) (σ70 : q_H) => q_G (q_rf fo) d m_Mo_read o σ' 146 [some (.ref v0), some (.int v1), none] [] σ70) (q_J.step (fun g => j_iconst (0 : Int32) rfl k32_0 (j_istore_n [some (.ref v0), some (.int v1), some (.int (0 : Int32))] rfl rfl (Or.inr rfl) rfl (g))) (l_Mo_read_L119 hd v0 v1 (fun _ _ h => h) q_FU (0 : Int32) σ64)) (fun t69 σ70 => ?_)
    refine J_bind fun x71 hx71 => ?_
    refine J_bind fun x72 hx72 => ?_
    refine J_bind fun x73 hx73 => ?_
    refine J_bind fun σ74 hσ74 => ?_
    refine J_bind fun x75 hx75 => ?_
    refine J_bind fun σ76 hσ76 => ?_
    exact J_some (fun h => j_aload_n rfl rfl (j_gfr rfl hx71 (j_iload_n rfl rfl (j_aload_n rfl rfl (j_gfr rfl hx72 (j_bipush (24 : Int32) rfl kb_24 (j_ial rfl hx73 (j_ias rfl hσ74 (j_aload_n rfl rfl (j_gfr rfl hx75 (j_iload_n rfl rfl (j_iconst (1 : Int32) rfl k32_1 (j_bas rfl (by decide) hσ76 (j_iconst (0 : Int32) rfl k32_0 (j_iret rfl rfl h)))))))))))))))
theorem t_Mo_read {fo : Option Nat} {d : Nat} (hd : 5 ≤ d) {v0 : Nat} {v1 : Int32} {σ σ1 : q_H} {r : Int32} (h : f_Mo_read v0 v1 σ = some (r, σ1)) : q_Rel (q_rf fo) q_Ms d 183 [.ref v0, .int v1] σ (.inl (some (.int r))) σ1 := by
  obtain ⟨d, rfl⟩ : ∃ d1, d = d1 + 1 := ⟨d - 1, by omega⟩
  exact q_Rel.of rfl rfl (b_Mo_read hd _ _ σ _ _ h ⟨rfl, rfl⟩)

def f_Mo_kin (v0 : Nat) (v1 : Int32) (v2 : Int32) (v3 : Int32) (σ : q_H) : Option ((Int32) × q_H) := (q_sf σ 12 v0 0 (.int (0 : Int32))).bind fun σ1 => (q_ob σ1 12 v0).bind fun w2 => q_sq (f_Mo_isLine v0 v1 v2 σ1) fun x4 σ3 => if x4 = (0 : Int32) then (some ((-1 : Int32), σ3)) else ((q_ob σ3 12 v0).bind fun w6 => q_sq (f_Mo_isLine v0 v1 v3 σ3) fun x8 σ7 => if x8 = (0 : Int32) then (some ((-1 : Int32), σ7)) else (if v2 = v3 then (some ((-1 : Int32), σ7)) else ((q_ob σ7 12 v0).bind fun w11 => q_sq (f_Mo_kinOf v0 (((12 : Int32) * v1) + v2) (((12 : Int32) * v1) + v3) σ7) fun x13 σ12 => some (x13, σ12))))
set_option maxRecDepth 100000 in
theorem b_Mo_kin {fo : Option Nat} {d : Nat} (hd : 5 ≤ d + 1) {o : q_O} {σ' : q_H} (v0 : Nat) (v1 : Int32) (v2 : Int32) (v3 : Int32) (σ : q_H) : q_J (fun (r : Int32) (σ1 : q_H) => o = .inl (some (.int r)) ∧ σ' = σ1) (f_Mo_kin v0 v1 v2 v3 σ) (q_G (q_rf fo) d m_Mo_kin o σ' 0 [some (.ref v0), some (.int v1), some (.int v2), some (.int v3)] [] σ) := by
  unfold f_Mo_kin
  refine J_bind fun σ1 hσ1 => ?_
  refine J_bind fun w2 hw2 => ?_
  refine J_cl fun x4 σ3 hσ3 => ?_
  refine q_J.step (fun g => j_aload_n rfl rfl (j_iconst (0 : Int32) rfl k32_0 (j_putf rfl rfl rfl rfl hσ1 (j_aload_n rfl rfl (j_iload_n rfl rfl (j_iload_n rfl rfl (j_v1 [.ref v0, .int v1, .int v2] [] rfl rfl rfl rfl rfl rfl hw2 (Or.inl rfl) (t_Mo_isLine (by omega) hσ3) (g)))))))) ?_
  refine J_ite (fun h5 => ?_) (fun h5 => ?_)
  · exact J_some (fun h => j_if_t rfl (cc_eq_t h5) (j_iconst (-1 : Int32) rfl k32_m1 (j_iret rfl rfl h)))
  refine J_bind fun w6 hw6 => ?_
  refine J_cl fun x8 σ7 hσ7 => ?_
  refine q_J.step (fun g => j_if_f rfl (cc_eq_f h5) (j_aload_n rfl rfl (j_iload_n rfl rfl (j_iload_n rfl rfl (j_v1 [.ref v0, .int v1, .int v3] [] rfl rfl rfl rfl rfl rfl hw6 (Or.inl rfl) (t_Mo_isLine (by omega) hσ7) (g)))))) ?_
  refine J_ite (fun h9 => ?_) (fun h9 => ?_)
  · exact J_some (fun h => j_if_t rfl (cc_eq_t h9) (j_iconst (-1 : Int32) rfl k32_m1 (j_iret rfl rfl h)))
  refine q_J.step (fun g => j_if_f rfl (cc_eq_f h9) (j_iload_n rfl rfl (j_iload_n rfl rfl (g)))) ?_
  refine J_ite (fun h10 => ?_) (fun h10 => ?_)
  · exact J_some (fun h => j_icmp_t rfl (cc_eq_t h10) (j_iconst (-1 : Int32) rfl k32_m1 (j_iret rfl rfl h)))
  refine J_bind fun w11 hw11 => ?_
  refine J_cl fun x13 σ12 hσ12 => ?_
  exact J_some (fun h => j_icmp_f rfl (cc_eq_f h10) (j_aload_n rfl rfl (j_bipush (12 : Int32) rfl kb_12 (j_iload_n rfl rfl (j_imul rfl (j_iload_n rfl rfl (j_iadd rfl (j_bipush (12 : Int32) rfl kb_12 (j_iload_n rfl rfl (j_imul rfl (j_iload_n rfl rfl (j_iadd rfl (j_v1 [.ref v0, .int (((12 : Int32) * v1) + v2), .int (((12 : Int32) * v1) + v3)] [] rfl rfl rfl rfl rfl rfl hw11 (Or.inl rfl) (t_Mo_kinOf (by omega) hσ12) (j_goto rfl (j_iret rfl rfl h)))))))))))))))
theorem t_Mo_kin {fo : Option Nat} {d : Nat} (hd : 5 ≤ d) {v0 : Nat} {v1 : Int32} {v2 : Int32} {v3 : Int32} {σ σ1 : q_H} {r : Int32} (h : f_Mo_kin v0 v1 v2 v3 σ = some (r, σ1)) : q_Rel (q_rf fo) q_Ms d 197 [.ref v0, .int v1, .int v2, .int v3] σ (.inl (some (.int r))) σ1 := by
  obtain ⟨d, rfl⟩ : ∃ d1, d = d1 + 1 := ⟨d - 1, by omega⟩
  exact q_Rel.of rfl rfl (b_Mo_kin hd _ _ _ _ σ _ _ h ⟨rfl, rfl⟩)

def f_Mo_isWife (v0 : Nat) (v1 : Int32) (v2 : Int32) (σ : q_H) : Option ((Int32) × q_H) := (q_ob σ 12 v0).bind fun w1 => q_sq (f_Mo_isLine v0 v1 v2 σ) fun x3 σ2 => if x3 = (0 : Int32) then (some ((0 : Int32), σ2)) else ((q_gr (q_gf σ2 12 v0 10)).bind fun x5 => (q_gi (q_ga σ2 20 x5 (((12 : Int32) * v1) + v2))).bind fun x6 => if x6 < (0 : Int32) then (some ((0 : Int32), σ2)) else (some ((1 : Int32), σ2)))
set_option maxRecDepth 100000 in
theorem b_Mo_isWife {fo : Option Nat} {d : Nat} (hd : 5 ≤ d + 1) {o : q_O} {σ' : q_H} (v0 : Nat) (v1 : Int32) (v2 : Int32) (σ : q_H) : q_J (fun (r : Int32) (σ1 : q_H) => o = .inl (some (.int r)) ∧ σ' = σ1) (f_Mo_isWife v0 v1 v2 σ) (q_G (q_rf fo) d m_Mo_isWife o σ' 0 [some (.ref v0), some (.int v1), some (.int v2)] [] σ) := by
  unfold f_Mo_isWife
  refine J_bind fun w1 hw1 => ?_
  refine J_cl fun x3 σ2 hσ2 => ?_
  refine q_J.step (fun g => j_aload_n rfl rfl (j_iload_n rfl rfl (j_iload_n rfl rfl (j_v1 [.ref v0, .int v1, .int v2] [] rfl rfl rfl rfl rfl rfl hw1 (Or.inl rfl) (t_Mo_isLine (by omega) hσ2) (g))))) ?_
  refine J_ite (fun h4 => ?_) (fun h4 => ?_)
  · exact J_some (fun h => j_if_t rfl (cc_eq_t h4) (j_iconst (0 : Int32) rfl k32_0 (j_iret rfl (q_zr (Or.inl rfl)) h)))
  refine J_bind fun x5 hx5 => ?_
  refine J_bind fun x6 hx6 => ?_
  refine q_J.step (fun g => j_if_f rfl (cc_eq_f h4) (j_aload_n rfl rfl (j_gfr rfl hx5 (j_bipush (12 : Int32) rfl kb_12 (j_iload_n rfl rfl (j_imul rfl (j_iload_n rfl rfl (j_iadd rfl (j_ial rfl hx6 (g)))))))))) ?_
  refine J_ite (fun h7 => ?_) (fun h7 => ?_)
  · exact J_some (fun h => j_if_t rfl (cc_lt_t h7) (j_iconst (0 : Int32) rfl k32_0 (j_iret rfl (q_zr (Or.inl rfl)) h)))
  exact J_some (fun h => j_if_f rfl (cc_lt_f h7) (j_iconst (1 : Int32) rfl k32_1 (j_goto rfl (j_iret rfl (q_zr (Or.inr rfl)) h))))
theorem t_Mo_isWife {fo : Option Nat} {d : Nat} (hd : 5 ≤ d) {v0 : Nat} {v1 : Int32} {v2 : Int32} {σ σ1 : q_H} {r : Int32} (h : f_Mo_isWife v0 v1 v2 σ = some (r, σ1)) : q_Rel (q_rf fo) q_Ms d 200 [.ref v0, .int v1, .int v2] σ (.inl (some (.int r))) σ1 := by
  obtain ⟨d, rfl⟩ : ∃ d1, d = d1 + 1 := ⟨d - 1, by omega⟩
  exact q_Rel.of rfl rfl (b_Mo_isWife hd _ _ _ σ _ _ h ⟨rfl, rfl⟩)

def f_Mo_heaping_L62 (v0 : Nat) (v1 : Int32) (v2 : Int32) (v3 : Int32) (v6 : Int32) : Nat → Int32 → Int32 → Int32 → q_H → Option ((Int32 × Int32) × q_H)
  | 0, _, _, _, _ => none
  | n + 1, v4, v5, v7, σ => (q_gr (q_gf σ 12 v0 7)).bind fun x14 => (q_gi (q_ga σ 20 x14 v6)).bind fun x15 => if v7 < (((12 : Int32) * v6) + x15) then ((q_gr (q_gf σ 12 v0 9)).bind fun x17 => (q_gi (q_ga σ 20 x17 v7)).bind fun x18 => q_sq (f_Mo_within x18 (10 : Int32) (69 : Int32) σ) fun x20 σ19 => if x20 = (0 : Int32) then (f_Mo_heaping_L62 v0 v1 v2 v3 v6 n v4 v5 (v7 + (1 : Int32)) σ19) else ((q_gr (q_gf σ19 12 v0 9)).bind fun x22 => (q_gi (q_ga σ19 20 x22 v7)).bind fun x23 => if (x23 - x23 / (5 : Int32) * (5 : Int32)) = (0 : Int32) then (f_Mo_heaping_L62 v0 v1 v2 v3 v6 n (v4 + (5 : Int32)) (v5 + (1 : Int32)) (v7 + (1 : Int32)) σ19) else (f_Mo_heaping_L62 v0 v1 v2 v3 v6 n (v4 + (0 : Int32)) (v5 + (1 : Int32)) (v7 + (1 : Int32)) σ19))) else (some ((v4, v5), σ))
set_option maxRecDepth 100000 in
theorem l_Mo_heaping_L62 {fo : Option Nat} {d : Nat} (hd : 5 ≤ d + 1) {o : q_O} {σ' : q_H} {E : (Int32 × Int32) → q_H → Prop} (v0 : Nat) (v1 : Int32) (v2 : Int32) (v3 : Int32) (v6 : Int32) (hX : ∀ (t : Int32 × Int32) σ1, E (t) σ1 → q_G (q_rf fo) d m_Mo_heaping o σ' 131 [some (.ref v0), some (.int v1), some (.int v2), some (.int v3), some (.int t.1), some (.int t.2), some (.int v6), none] [] σ1)  : ∀ (n : Nat) (v4 : Int32) (v5 : Int32) (v7 : Int32) (σ : q_H), q_J E (f_Mo_heaping_L62 v0 v1 v2 v3 v6 n v4 v5 v7 σ) (q_G (q_rf fo) d m_Mo_heaping o σ' 62 [some (.ref v0), some (.int v1), some (.int v2), some (.int v3), some (.int v4), some (.int v5), some (.int v6), some (.int v7)] [] σ)
  | 0, v4, v5, v7, σ => J_none
  | n + 1, v4, v5, v7, σ => by
    unfold f_Mo_heaping_L62
    refine J_bind fun x14 hx14 => ?_
    refine J_bind fun x15 hx15 => ?_
    refine q_J.step (fun g => j_iload rfl rfl (j_bipush (12 : Int32) rfl kb_12 (j_iload rfl rfl (j_imul rfl (j_aload_n rfl rfl (j_gfr rfl hx14 (j_iload rfl rfl (j_ial rfl hx15 (j_iadd rfl (g)))))))))) ?_
    refine J_ite (fun h16 => ?_) (fun h16 => ?_)
    · refine J_bind fun x17 hx17 => ?_
      refine J_bind fun x18 hx18 => ?_
      refine J_cl fun x20 σ19 hσ19 => ?_
      refine q_J.step (fun g => j_icmp_f rfl (cc_ge_f h16) (j_aload_n rfl rfl (j_gfr rfl hx17 (j_iload rfl rfl (j_ial rfl hx18 (j_bipush (10 : Int32) rfl kb_10 (j_bipush (69 : Int32) rfl kb_69 (j_s1 [.int x18, .int (10 : Int32), .int (69 : Int32)] [] rfl rfl rfl rfl rfl (t_Mo_within (by omega) hσ19) (g))))))))) ?_
      refine J_ite (fun h21 => ?_) (fun h21 => ?_)
      · exact q_J.step (fun g => j_if_f rfl (cc_ne_f h21) (j_goto rfl (j_iinc [some (.ref v0), some (.int v1), some (.int v2), some (.int v3), some (.int v4), some (.int v5), some (.int v6), some (.int (v7 + (1 : Int32)))] (v7 + (1 : Int32)) rfl rfl (by rw [k32_1]) (Or.inr rfl) rfl (j_goto rfl (g))))) (l_Mo_heaping_L62 hd v0 v1 v2 v3 v6 hX n v4 v5 (v7 + (1 : Int32)) σ19)
      refine J_bind fun x22 hx22 => ?_
      refine J_bind fun x23 hx23 => ?_
      refine q_J.step (fun g => j_if_t rfl (cc_ne_t h21) (j_iinc [some (.ref v0), some (.int v1), some (.int v2), some (.int v3), some (.int v4), some (.int (v5 + (1 : Int32))), some (.int v6), some (.int v7)] (v5 + (1 : Int32)) rfl rfl (by rw [k32_1]) (Or.inr rfl) rfl (j_iload rfl rfl (j_aload_n rfl rfl (j_gfr rfl hx22 (j_iload rfl rfl (j_ial rfl hx23 (j_iconst (5 : Int32) rfl k32_5 (j_irem rfl (by decide) (g)))))))))) ?_
      refine J_ite (fun h24 => ?_) (fun h24 => ?_)
      · exact q_J.step (fun g => j_if_f rfl (cc_ne_f h24) (j_iconst (5 : Int32) rfl k32_5 (j_goto rfl (j_iadd rfl (j_istore [some (.ref v0), some (.int v1), some (.int v2), some (.int v3), some (.int (v4 + (5 : Int32))), some (.int (v5 + (1 : Int32))), some (.int v6), some (.int v7)] rfl rfl (Or.inr rfl) rfl (j_iinc [some (.ref v0), some (.int v1), some (.int v2), some (.int v3), some (.int (v4 + (5 : Int32))), some (.int (v5 + (1 : Int32))), some (.int v6), some (.int (v7 + (1 : Int32)))] (v7 + (1 : Int32)) rfl rfl (by rw [k32_1]) (Or.inr rfl) rfl (j_goto rfl (g)))))))) (l_Mo_heaping_L62 hd v0 v1 v2 v3 v6 hX n (v4 + (5 : Int32)) (v5 + (1 : Int32)) (v7 + (1 : Int32)) σ19)
      exact q_J.step (fun g => j_if_t rfl (cc_ne_t h24) (j_iconst (0 : Int32) rfl k32_0 (j_iadd rfl (j_istore [some (.ref v0), some (.int v1), some (.int v2), some (.int v3), some (.int (v4 + (0 : Int32))), some (.int (v5 + (1 : Int32))), some (.int v6), some (.int v7)] rfl rfl (Or.inr rfl) rfl (j_iinc [some (.ref v0), some (.int v1), some (.int v2), some (.int v3), some (.int (v4 + (0 : Int32))), some (.int (v5 + (1 : Int32))), some (.int v6), some (.int (v7 + (1 : Int32)))] (v7 + (1 : Int32)) rfl rfl (by rw [k32_1]) (Or.inr rfl) rfl (j_goto rfl (g))))))) (l_Mo_heaping_L62 hd v0 v1 v2 v3 v6 hX n (v4 + (0 : Int32)) (v5 + (1 : Int32)) (v7 + (1 : Int32)) σ19)
    exact J_some (fun h => j_icmp_t rfl (cc_ge_t h16) (j_weak (l := [some (.ref v0), some (.int v1), some (.int v2), some (.int v3), some (.int v4), some (.int v5), some (.int v6), none]) (And.intro (Or.inr rfl) (And.intro (Or.inr rfl) (And.intro (Or.inr rfl) (And.intro (Or.inr rfl) (And.intro (Or.inr rfl) (And.intro (Or.inr rfl) (And.intro (Or.inr rfl) (And.intro (Or.inl rfl) True.intro)))))))) (hX _ _ h)))

def f_Mo_heaping_L34 (v0 : Nat) (v1 : Int32) (v2 : Int32) (v3 : Int32) : Nat → Int32 → Int32 → Int32 → q_H → Option ((Int32 × Int32) × q_H)
  | 0, _, _, _, _ => none
  | n + 1, v4, v5, v6, σ => if v6 < (24 : Int32) then ((q_ob σ 12 v0).bind fun w10 => q_sq (f_Mo_isIn v0 v6 v1 v2 σ) fun x12 σ11 => if x12 = (0 : Int32) then (f_Mo_heaping_L34 v0 v1 v2 v3 n v4 v5 (v6 + (1 : Int32)) σ11) else (q_sq (f_Mo_heaping_L62 v0 v1 v2 v3 v6 q_FU v4 v5 ((12 : Int32) * v6) σ11) fun (t25 : Int32 × Int32) σ26 => f_Mo_heaping_L34 v0 v1 v2 v3 n t25.1 t25.2 (v6 + (1 : Int32)) σ26)) else (some ((v4, v5), σ))
set_option maxRecDepth 100000 in
theorem l_Mo_heaping_L34 {fo : Option Nat} {d : Nat} (hd : 5 ≤ d + 1) {o : q_O} {σ' : q_H} {E : (Int32 × Int32) → q_H → Prop} (v0 : Nat) (v1 : Int32) (v2 : Int32) (v3 : Int32) (hX : ∀ (t : Int32 × Int32) σ1, E (t) σ1 → q_G (q_rf fo) d m_Mo_heaping o σ' 137 [none, none, none, some (.int v3), some (.int t.1), some (.int t.2), none, none] [] σ1)  : ∀ (n : Nat) (v4 : Int32) (v5 : Int32) (v6 : Int32) (σ : q_H), q_J E (f_Mo_heaping_L34 v0 v1 v2 v3 n v4 v5 v6 σ) (q_G (q_rf fo) d m_Mo_heaping o σ' 34 [some (.ref v0), some (.int v1), some (.int v2), some (.int v3), some (.int v4), some (.int v5), some (.int v6), none] [] σ)
  | 0, v4, v5, v6, σ => J_none
  | n + 1, v4, v5, v6, σ => by
    unfold f_Mo_heaping_L34
    refine q_J.step (fun g => j_iload rfl rfl (j_bipush (24 : Int32) rfl kb_24 (g))) ?_
    refine J_ite (fun h9 => ?_) (fun h9 => ?_)
    · refine J_bind fun w10 hw10 => ?_
      refine J_cl fun x12 σ11 hσ11 => ?_
      refine q_J.step (fun g => j_icmp_f rfl (cc_ge_f h9) (j_aload_n rfl rfl (j_iload rfl rfl (j_iload_n rfl rfl (j_iload_n rfl rfl (j_v1 [.ref v0, .int v6, .int v1, .int v2] [] rfl rfl rfl rfl rfl rfl hw10 (Or.inl rfl) (t_Mo_isIn (by omega) hσ11) (g))))))) ?_
      refine J_ite (fun h13 => ?_) (fun h13 => ?_)
      · exact q_J.step (fun g => j_if_f rfl (cc_ne_f h13) (j_goto rfl (j_iinc [some (.ref v0), some (.int v1), some (.int v2), some (.int v3), some (.int v4), some (.int v5), some (.int (v6 + (1 : Int32))), none] (v6 + (1 : Int32)) rfl rfl (by rw [k32_1]) (Or.inr rfl) rfl (j_goto rfl (g))))) (l_Mo_heaping_L34 hd v0 v1 v2 v3 hX n v4 v5 (v6 + (1 : Int32)) σ11)
      refine J_sq (fun (t25 : Int32 × Int32) (σ26 : q_H) => q_G (q_rf fo) d m_Mo_heaping o σ' 131 [some (.ref v0), some (.int v1), some (.int v2), some (.int v3), some (.int t25.1), some (.int t25.2), some (.int v6), none] [] σ26) (q_J.step (fun g => j_if_t rfl (cc_ne_t h13) (j_bipush (12 : Int32) rfl kb_12 (j_iload rfl rfl (j_imul rfl (j_istore [some (.ref v0), some (.int v1), some (.int v2), some (.int v3), some (.int v4), some (.int v5), some (.int v6), some (.int ((12 : Int32) * v6))] rfl rfl (Or.inr rfl) rfl (g)))))) (l_Mo_heaping_L62 hd v0 v1 v2 v3 v6 (fun _ _ h => h) q_FU v4 v5 ((12 : Int32) * v6) σ11)) (fun t25 σ26 => ?_)
      exact q_J.step (fun g => j_iinc [some (.ref v0), some (.int v1), some (.int v2), some (.int v3), some (.int t25.1), some (.int t25.2), some (.int (v6 + (1 : Int32))), none] (v6 + (1 : Int32)) rfl rfl (by rw [k32_1]) (Or.inr rfl) rfl (j_goto rfl (g))) (l_Mo_heaping_L34 hd v0 v1 v2 v3 hX n t25.1 t25.2 (v6 + (1 : Int32)) σ26)
    exact J_some (fun h => j_icmp_t rfl (cc_ge_t h9) (j_weak (l := [none, none, none, some (.int v3), some (.int v4), some (.int v5), none, none]) (And.intro (Or.inl rfl) (And.intro (Or.inl rfl) (And.intro (Or.inl rfl) (And.intro (Or.inr rfl) (And.intro (Or.inr rfl) (And.intro (Or.inr rfl) (And.intro (Or.inl rfl) (And.intro (Or.inr rfl) True.intro)))))))) (hX _ _ h)))

def f_Mo_heaping (v0 : Nat) (v1 : Int32) (v2 : Int32) (v3 : Int32) (σ : q_H) : Option ((Int32) × q_H) := (q_sf σ 12 v0 0 (.int (0 : Int32))).bind fun σ1 => (q_ob σ1 12 v0).bind fun w2 => q_sq (f_Mo_isScope v0 v1 v2 σ1) fun x4 σ3 => if x4 = (0 : Int32) then (some ((-1 : Int32), σ3)) else (q_sq (f_Mo_within v3 (0 : Int32) (1 : Int32) σ3) fun x7 σ6 => if x7 = (0 : Int32) then (some ((-1 : Int32), σ6)) else (q_sq (f_Mo_heaping_L34 v0 v1 v2 v3 q_FU (0 : Int32) (0 : Int32) (0 : Int32) σ6) fun (t27 : Int32 × Int32) σ28 => if t27.2 = (0 : Int32) then (some ((-1 : Int32), σ28)) else (q_sq (f_Mo_lowest t27.1.toInt64 t27.2.toInt64 v3 σ28) fun x31 σ30 => some (x31.toInt32, σ30))))
set_option maxRecDepth 100000 in
theorem b_Mo_heaping {fo : Option Nat} {d : Nat} (hd : 5 ≤ d + 1) {o : q_O} {σ' : q_H} (v0 : Nat) (v1 : Int32) (v2 : Int32) (v3 : Int32) (σ : q_H) : q_J (fun (r : Int32) (σ1 : q_H) => o = .inl (some (.int r)) ∧ σ' = σ1) (f_Mo_heaping v0 v1 v2 v3 σ) (q_G (q_rf fo) d m_Mo_heaping o σ' 0 [some (.ref v0), some (.int v1), some (.int v2), some (.int v3), none, none, none, none] [] σ) := by
  unfold f_Mo_heaping
  refine J_bind fun σ1 hσ1 => ?_
  refine J_bind fun w2 hw2 => ?_
  refine J_cl fun x4 σ3 hσ3 => ?_
  refine q_J.step (fun g => j_aload_n rfl rfl (j_iconst (0 : Int32) rfl k32_0 (j_putf rfl rfl rfl rfl hσ1 (j_aload_n rfl rfl (j_iload_n rfl rfl (j_iload_n rfl rfl (j_v1 [.ref v0, .int v1, .int v2] [] rfl rfl rfl rfl rfl rfl hw2 (Or.inl rfl) (t_Mo_isScope (by omega) hσ3) (g)))))))) ?_
  refine J_ite (fun h5 => ?_) (fun h5 => ?_)
  · exact J_some (fun h => j_if_t rfl (cc_eq_t h5) (j_iconst (-1 : Int32) rfl k32_m1 (j_iret rfl rfl h)))
  refine J_cl fun x7 σ6 hσ6 => ?_
  refine q_J.step (fun g => j_if_f rfl (cc_eq_f h5) (j_iload_n rfl rfl (j_iconst (0 : Int32) rfl k32_0 (j_iconst (1 : Int32) rfl k32_1 (j_s1 [.int v3, .int (0 : Int32), .int (1 : Int32)] [] rfl rfl rfl rfl rfl (t_Mo_within (by omega) hσ6) (g)))))) ?_
  refine J_ite (fun h8 => ?_) (fun h8 => ?_)
  · exact J_some (fun h => j_if_f rfl (cc_ne_f h8) (j_iconst (-1 : Int32) rfl k32_m1 (j_iret rfl rfl h)))
  refine J_sq (fun (t27 : Int32 × Int32) (σ28 : q_H) => q_G (q_rf fo) d m_Mo_heaping o σ' 137 [none, none, none, some (.int v3), some (.int t27.1), some (.int t27.2), none, none] [] σ28) (q_J.step (fun g => j_if_t rfl (cc_ne_t h8) (j_iconst (0 : Int32) rfl k32_0 (j_istore [some (.ref v0), some (.int v1), some (.int v2), some (.int v3), some (.int (0 : Int32)), none, none, none] rfl rfl (Or.inr rfl) rfl (j_iconst (0 : Int32) rfl k32_0 (j_istore [some (.ref v0), some (.int v1), some (.int v2), some (.int v3), some (.int (0 : Int32)), some (.int (0 : Int32)), none, none] rfl rfl (Or.inr rfl) rfl (j_iconst (0 : Int32) rfl k32_0 (j_istore [some (.ref v0), some (.int v1), some (.int v2), some (.int v3), some (.int (0 : Int32)), some (.int (0 : Int32)), some (.int (0 : Int32)), none] rfl rfl (Or.inr rfl) rfl (g)))))))) (l_Mo_heaping_L34 hd v0 v1 v2 v3 (fun _ _ h => h) q_FU (0 : Int32) (0 : Int32) (0 : Int32) σ6)) (fun t27 σ28 => ?_)
  refine q_J.step (fun g => j_iload rfl rfl (g)) ?_
  refine J_ite (fun h29 => ?_) (fun h29 => ?_)
  · exact J_some (fun h => j_if_f rfl (cc_ne_f h29) (j_iconst (-1 : Int32) rfl k32_m1 (j_goto rfl (j_iret rfl rfl h))))
  refine J_cl fun x31 σ30 hσ30 => ?_
  exact J_some (fun h => j_if_t rfl (cc_ne_t h29) (j_iload rfl rfl (j_i2l rfl (j_iload rfl rfl (j_i2l rfl (j_iload_n rfl rfl (j_s1 [.long t27.1.toInt64, .long t27.2.toInt64, .int v3] [] rfl rfl rfl rfl rfl (t_Mo_lowest (by omega) hσ30) (j_l2i rfl (j_iret rfl rfl h)))))))))
theorem t_Mo_heaping {fo : Option Nat} {d : Nat} (hd : 5 ≤ d) {v0 : Nat} {v1 : Int32} {v2 : Int32} {v3 : Int32} {σ σ1 : q_H} {r : Int32} (h : f_Mo_heaping v0 v1 v2 v3 σ = some (r, σ1)) : q_Rel (q_rf fo) q_Ms d 218 [.ref v0, .int v1, .int v2, .int v3] σ (.inl (some (.int r))) σ1 := by
  obtain ⟨d, rfl⟩ : ∃ d1, d = d1 + 1 := ⟨d - 1, by omega⟩
  exact q_Rel.of rfl rfl (b_Mo_heaping hd _ _ _ _ σ _ _ h ⟨rfl, rfl⟩)

def f_Mo_one (v0 : Nat) (v1 : Int32) (v2 : Int32) (v3 : Int32) (σ : q_H) : Option ((Int32) × q_H) := (q_sf σ 12 v0 0 (.int (0 : Int32))).bind fun σ1 => (q_ob σ1 12 v0).bind fun w2 => q_sq (f_Mo_isLine v0 v1 v2 σ1) fun x4 σ3 => if x4 = (0 : Int32) then (some ((-1 : Int32), σ3)) else (q_sq (f_Mo_within v3 (0 : Int32) (23 : Int32) σ3) fun x7 σ6 => q_sq (if x7 = (0 : Int32) then (some (v1, σ6)) else (some (v3, σ6))) fun (t9 : Int32) σ10 => (q_ob σ10 12 v0).bind fun w11 => q_sq (f_Mo_oneOf v0 v1 v2 t9 σ10) fun x13 σ12 => some (x13, σ12))
set_option maxRecDepth 100000 in
theorem b_Mo_one {fo : Option Nat} {d : Nat} (hd : 5 ≤ d + 1) {o : q_O} {σ' : q_H} (v0 : Nat) (v1 : Int32) (v2 : Int32) (v3 : Int32) (σ : q_H) : q_J (fun (r : Int32) (σ1 : q_H) => o = .inl (some (.int r)) ∧ σ' = σ1) (f_Mo_one v0 v1 v2 v3 σ) (q_G (q_rf fo) d m_Mo_one o σ' 0 [some (.ref v0), some (.int v1), some (.int v2), some (.int v3)] [] σ) := by
  unfold f_Mo_one
  refine J_bind fun σ1 hσ1 => ?_
  refine J_bind fun w2 hw2 => ?_
  refine J_cl fun x4 σ3 hσ3 => ?_
  refine q_J.step (fun g => j_aload_n rfl rfl (j_iconst (0 : Int32) rfl k32_0 (j_putf rfl rfl rfl rfl hσ1 (j_aload_n rfl rfl (j_iload_n rfl rfl (j_iload_n rfl rfl (j_v1 [.ref v0, .int v1, .int v2] [] rfl rfl rfl rfl rfl rfl hw2 (Or.inl rfl) (t_Mo_isLine (by omega) hσ3) (g)))))))) ?_
  refine J_ite (fun h5 => ?_) (fun h5 => ?_)
  · exact J_some (fun h => j_if_t rfl (cc_eq_t h5) (j_iconst (-1 : Int32) rfl k32_m1 (j_iret rfl rfl h)))
  refine J_cl fun x7 σ6 hσ6 => ?_
  refine q_J.step (fun g => j_if_f rfl (cc_eq_f h5) (j_aload_n rfl rfl (j_iload_n rfl rfl (j_iload_n rfl rfl (j_iload_n rfl rfl (j_iconst (0 : Int32) rfl k32_0 (j_bipush (23 : Int32) rfl kb_23 (j_s1 [.int v3, .int (0 : Int32), .int (23 : Int32)] [.int v2, .int v1, .ref v0] rfl rfl rfl rfl rfl (t_Mo_within (by omega) hσ6) (g))))))))) ?_
  refine J_sq (fun (t9 : Int32) (σ10 : q_H) => q_G (q_rf fo) d m_Mo_one o σ' 32 [none, none, none, none] [.int t9, .int v2, .int v1, .ref v0] σ10) ?_ (fun t9 σ10 => ?_)
  · refine J_ite (fun h8 => ?_) (fun h8 => ?_)
    · exact J_some (fun h => j_if_t rfl (cc_eq_t h8) (j_iload_n rfl rfl (j_weak (l := [none, none, none, none]) (And.intro (Or.inl rfl) (And.intro (Or.inl rfl) (And.intro (Or.inl rfl) (And.intro (Or.inl rfl) True.intro)))) (h))))
    exact J_some (fun h => j_if_f rfl (cc_eq_f h8) (j_iload_n rfl rfl (j_goto rfl (j_weak (l := [none, none, none, none]) (And.intro (Or.inl rfl) (And.intro (Or.inl rfl) (And.intro (Or.inl rfl) (And.intro (Or.inl rfl) True.intro)))) (h)))))
  refine J_bind fun w11 hw11 => ?_
  refine J_cl fun x13 σ12 hσ12 => ?_
  exact J_some (fun h => j_v1 [.ref v0, .int v1, .int v2, .int t9] [] rfl rfl rfl rfl rfl rfl hw11 (Or.inl rfl) (t_Mo_oneOf (by omega) hσ12) (j_goto rfl (j_iret rfl rfl h)))
theorem t_Mo_one {fo : Option Nat} {d : Nat} (hd : 5 ≤ d) {v0 : Nat} {v1 : Int32} {v2 : Int32} {v3 : Int32} {σ σ1 : q_H} {r : Int32} (h : f_Mo_one v0 v1 v2 v3 σ = some (r, σ1)) : q_Rel (q_rf fo) q_Ms d 219 [.ref v0, .int v1, .int v2, .int v3] σ (.inl (some (.int r))) σ1 := by
  obtain ⟨d, rfl⟩ : ∃ d1, d = d1 + 1 := ⟨d - 1, by omega⟩
  exact q_Rel.of rfl rfl (b_Mo_one hd _ _ _ _ σ _ _ h ⟨rfl, rfl⟩)

def f_Mo_houses_L2 (v0 : Nat) : Nat → Int32 → q_H → Option ((Unit) × q_H)
  | 0, _, _ => none
  | n + 1, v1, σ => if v1 < (24 : Int32) then ((q_gr (q_gf σ 12 v0 27)).bind fun x2 => (q_sa σ 20 x2 v1 (.int v1)).bind fun σ3 => f_Mo_houses_L2 v0 n (v1 + (1 : Int32)) σ3) else (some ((), σ))
set_option maxRecDepth 100000 in
theorem l_Mo_houses_L2 {fo : Option Nat} {d : Nat} (hd : 5 ≤ d + 1) {o : q_O} {σ' : q_H} {E : (Unit) → q_H → Prop} (v0 : Nat) (hX : ∀ (t : Unit) σ1, E (t) σ1 → q_G (q_rf fo) d m_Mo_houses o σ' 21 [some (.ref v0), none, none, none, none, none, none] [] σ1)  : ∀ (n : Nat) (v1 : Int32) (σ : q_H), q_J E (f_Mo_houses_L2 v0 n v1 σ) (q_G (q_rf fo) d m_Mo_houses o σ' 2 [some (.ref v0), some (.int v1), none, none, none, none, none] [] σ)
  | 0, v1, σ => J_none
  | n + 1, v1, σ => by
    unfold f_Mo_houses_L2
    refine q_J.step (fun g => j_iload_n rfl rfl (j_bipush (24 : Int32) rfl kb_24 (g))) ?_
    refine J_ite (fun h1 => ?_) (fun h1 => ?_)
    · refine J_bind fun x2 hx2 => ?_
      refine J_bind fun σ3 hσ3 => ?_
      exact q_J.step (fun g => j_icmp_f rfl (cc_ge_f h1) (j_aload_n rfl rfl (j_gfr rfl hx2 (j_iload_n rfl rfl (j_iload_n rfl rfl (j_ias rfl hσ3 (j_iinc [some (.ref v0), some (.int (v1 + (1 : Int32))), none, none, none, none, none] (v1 + (1 : Int32)) rfl rfl (by rw [k32_1]) (Or.inr rfl) rfl (j_goto rfl (g))))))))) (l_Mo_houses_L2 hd v0 hX n (v1 + (1 : Int32)) σ3)
    exact J_some (fun h => j_icmp_t rfl (cc_ge_t h1) (j_weak (l := [some (.ref v0), none, none, none, none, none, none]) (And.intro (Or.inr rfl) (And.intro (Or.inl rfl) (And.intro (Or.inr rfl) (And.intro (Or.inr rfl) (And.intro (Or.inr rfl) (And.intro (Or.inr rfl) (And.intro (Or.inr rfl) True.intro))))))) (hX _ _ h)))

def f_Mo_houses_L52 (v0 : Nat) (v1 : Int32) (v2 : Int32) : Nat → Int32 → Int32 → q_H → Option ((Int32) × q_H)
  | 0, _, _, _ => none
  | n + 1, v3, v4, σ => (q_gr (q_gf σ 12 v0 7)).bind fun x12 => (q_gi (q_ga σ 20 x12 v1)).bind fun x13 => if v4 < x13 then ((q_ob σ 12 v0).bind fun w15 => q_sq (f_Mo_oneOf v0 v1 v4 v2 σ) fun x17 σ16 => if x17 < (0 : Int32) then (f_Mo_houses_L52 v0 v1 v2 n (v3 + (0 : Int32)) (v4 + (1 : Int32)) σ16) else (f_Mo_houses_L52 v0 v1 v2 n (v3 + (1 : Int32)) (v4 + (1 : Int32)) σ16)) else (some (v3, σ))
set_option maxRecDepth 100000 in
theorem l_Mo_houses_L52 {fo : Option Nat} {d : Nat} (hd : 5 ≤ d + 1) {o : q_O} {σ' : q_H} {E : (Int32) → q_H → Prop} (v0 : Nat) (v1 : Int32) (v2 : Int32) (hX : ∀ (t : Int32) σ1, E (t) σ1 → q_G (q_rf fo) d m_Mo_houses o σ' 88 [some (.ref v0), some (.int v1), some (.int v2), some (.int t), none, none, none] [] σ1)  : ∀ (n : Nat) (v3 : Int32) (v4 : Int32) (σ : q_H), q_J E (f_Mo_houses_L52 v0 v1 v2 n v3 v4 σ) (q_G (q_rf fo) d m_Mo_houses o σ' 52 [some (.ref v0), some (.int v1), some (.int v2), some (.int v3), some (.int v4), none, none] [] σ)
  | 0, v3, v4, σ => J_none
  | n + 1, v3, v4, σ => by
    unfold f_Mo_houses_L52
    refine J_bind fun x12 hx12 => ?_
    refine J_bind fun x13 hx13 => ?_
    refine q_J.step (fun g => j_iload rfl rfl (j_aload_n rfl rfl (j_gfr rfl hx12 (j_iload_n rfl rfl (j_ial rfl hx13 (g)))))) ?_
    refine J_ite (fun h14 => ?_) (fun h14 => ?_)
    · refine J_bind fun w15 hw15 => ?_
      refine J_cl fun x17 σ16 hσ16 => ?_
      refine q_J.step (fun g => j_icmp_f rfl (cc_ge_f h14) (j_iload_n rfl rfl (j_aload_n rfl rfl (j_iload_n rfl rfl (j_iload rfl rfl (j_iload_n rfl rfl (j_v1 [.ref v0, .int v1, .int v4, .int v2] [.int v3] rfl rfl rfl rfl rfl rfl hw15 (Or.inl rfl) (t_Mo_oneOf (by omega) hσ16) (g)))))))) ?_
      refine J_ite (fun h18 => ?_) (fun h18 => ?_)
      · exact q_J.step (fun g => j_if_t rfl (cc_lt_t h18) (j_iconst (0 : Int32) rfl k32_0 (j_iadd rfl (j_istore_n [some (.ref v0), some (.int v1), some (.int v2), some (.int (v3 + (0 : Int32))), some (.int v4), none, none] rfl rfl (Or.inr rfl) rfl (j_iinc [some (.ref v0), some (.int v1), some (.int v2), some (.int (v3 + (0 : Int32))), some (.int (v4 + (1 : Int32))), none, none] (v4 + (1 : Int32)) rfl rfl (by rw [k32_1]) (Or.inr rfl) rfl (j_goto rfl (g))))))) (l_Mo_houses_L52 hd v0 v1 v2 hX n (v3 + (0 : Int32)) (v4 + (1 : Int32)) σ16)
      exact q_J.step (fun g => j_if_f rfl (cc_lt_f h18) (j_iconst (1 : Int32) rfl k32_1 (j_goto rfl (j_iadd rfl (j_istore_n [some (.ref v0), some (.int v1), some (.int v2), some (.int (v3 + (1 : Int32))), some (.int v4), none, none] rfl rfl (Or.inr rfl) rfl (j_iinc [some (.ref v0), some (.int v1), some (.int v2), some (.int (v3 + (1 : Int32))), some (.int (v4 + (1 : Int32))), none, none] (v4 + (1 : Int32)) rfl rfl (by rw [k32_1]) (Or.inr rfl) rfl (j_goto rfl (g)))))))) (l_Mo_houses_L52 hd v0 v1 v2 hX n (v3 + (1 : Int32)) (v4 + (1 : Int32)) σ16)
    exact J_some (fun h => j_icmp_t rfl (cc_ge_t h14) (j_weak (l := [some (.ref v0), some (.int v1), some (.int v2), some (.int v3), none, none, none]) (And.intro (Or.inr rfl) (And.intro (Or.inr rfl) (And.intro (Or.inr rfl) (And.intro (Or.inr rfl) (And.intro (Or.inl rfl) (And.intro (Or.inr rfl) (And.intro (Or.inr rfl) True.intro))))))) (hX _ _ h)))

def f_Mo_houses_L148 (v0 : Nat) (v1 : Int32) (v2 : Int32) (v4 : Int32) (v5 : Int32) : Nat → Int32 → q_H → Option ((Unit) × q_H)
  | 0, _, _ => none
  | n + 1, v6, σ => if v6 < (24 : Int32) then ((q_gr (q_gf σ 12 v0 27)).bind fun x36 => (q_gr (q_gf σ 12 v0 27)).bind fun x37 => (q_gi (q_ga σ 20 x37 v6)).bind fun x38 => if x38 = v4 then ((q_sa σ 20 x36 v6 (.int v5)).bind fun σ40 => f_Mo_houses_L148 v0 v1 v2 v4 v5 n (v6 + (1 : Int32)) σ40) else ((q_gr (q_gf σ 12 v0 27)).bind fun x41 => (q_gi (q_ga σ 20 x41 v6)).bind fun x42 => (q_sa σ 20 x36 v6 (.int x42)).bind fun σ43 => f_Mo_houses_L148 v0 v1 v2 v4 v5 n (v6 + (1 : Int32)) σ43)) else (some ((), σ))
set_option maxRecDepth 100000 in
theorem l_Mo_houses_L148 {fo : Option Nat} {d : Nat} (hd : 5 ≤ d + 1) {o : q_O} {σ' : q_H} {E : (Unit) → q_H → Prop} (v0 : Nat) (v1 : Int32) (v2 : Int32) (v4 : Int32) (v5 : Int32) (hX : ∀ (t : Unit) σ1, E (t) σ1 → q_G (q_rf fo) d m_Mo_houses o σ' 192 [some (.ref v0), some (.int v1), some (.int v2), none, none, none, none] [] σ1)  : ∀ (n : Nat) (v6 : Int32) (σ : q_H), q_J E (f_Mo_houses_L148 v0 v1 v2 v4 v5 n v6 σ) (q_G (q_rf fo) d m_Mo_houses o σ' 148 [some (.ref v0), some (.int v1), some (.int v2), none, some (.int v4), some (.int v5), some (.int v6)] [] σ)
  | 0, v6, σ => J_none
  | n + 1, v6, σ => by
    unfold f_Mo_houses_L148
    refine q_J.step (fun g => j_iload rfl rfl (j_bipush (24 : Int32) rfl kb_24 (g))) ?_
    refine J_ite (fun h35 => ?_) (fun h35 => ?_)
    · refine J_bind fun x36 hx36 => ?_
      refine J_bind fun x37 hx37 => ?_
      refine J_bind fun x38 hx38 => ?_
      refine q_J.step (fun g => j_icmp_f rfl (cc_ge_f h35) (j_aload_n rfl rfl (j_gfr rfl hx36 (j_iload rfl rfl (j_aload_n rfl rfl (j_gfr rfl hx37 (j_iload rfl rfl (j_ial rfl hx38 (j_iload rfl rfl (g)))))))))) ?_
      refine J_ite (fun h39 => ?_) (fun h39 => ?_)
      · refine J_bind fun σ40 hσ40 => ?_
        exact q_J.step (fun g => j_icmp_f rfl (cc_ne_f h39) (j_iload rfl rfl (j_goto rfl (j_ias rfl hσ40 (j_iinc [some (.ref v0), some (.int v1), some (.int v2), none, some (.int v4), some (.int v5), some (.int (v6 + (1 : Int32)))] (v6 + (1 : Int32)) rfl rfl (by rw [k32_1]) (Or.inr rfl) rfl (j_goto rfl (g))))))) (l_Mo_houses_L148 hd v0 v1 v2 v4 v5 hX n (v6 + (1 : Int32)) σ40)
      refine J_bind fun x41 hx41 => ?_
      refine J_bind fun x42 hx42 => ?_
      refine J_bind fun σ43 hσ43 => ?_
      exact q_J.step (fun g => j_icmp_t rfl (cc_ne_t h39) (j_aload_n rfl rfl (j_gfr rfl hx41 (j_iload rfl rfl (j_ial rfl hx42 (j_ias rfl hσ43 (j_iinc [some (.ref v0), some (.int v1), some (.int v2), none, some (.int v4), some (.int v5), some (.int (v6 + (1 : Int32)))] (v6 + (1 : Int32)) rfl rfl (by rw [k32_1]) (Or.inr rfl) rfl (j_goto rfl (g))))))))) (l_Mo_houses_L148 hd v0 v1 v2 v4 v5 hX n (v6 + (1 : Int32)) σ43)
    exact J_some (fun h => j_icmp_t rfl (cc_ge_t h35) (j_weak (l := [some (.ref v0), some (.int v1), some (.int v2), none, none, none, none]) (And.intro (Or.inr rfl) (And.intro (Or.inr rfl) (And.intro (Or.inr rfl) (And.intro (Or.inr rfl) (And.intro (Or.inl rfl) (And.intro (Or.inl rfl) (And.intro (Or.inl rfl) True.intro))))))) (hX _ _ h)))

def f_Mo_houses_L33 (v0 : Nat) (v1 : Int32) : Nat → Int32 → q_H → Option ((Unit) × q_H)
  | 0, _, _ => none
  | n + 1, v2, σ => if v2 < (24 : Int32) then ((q_ob σ 12 v0).bind fun w8 => q_sq (f_Mo_isThere v0 v1 σ) fun x10 σ9 => if x10 = (0 : Int32) then (some ((), σ9)) else (q_sq (f_Mo_houses_L52 v0 v1 v2 q_FU (0 : Int32) (0 : Int32) σ9) fun (t19 : Int32) σ20 => if t19 < (2 : Int32) then (f_Mo_houses_L33 v0 v1 n (v2 + (1 : Int32)) σ20) else ((q_gr (q_gf σ20 12 v0 27)).bind fun x22 => (q_gi (q_ga σ20 20 x22 v1)).bind fun x23 => (q_gr (q_gf σ20 12 v0 27)).bind fun x24 => (q_gi (q_ga σ20 20 x24 v2)).bind fun x25 => if x23 = x25 then (f_Mo_houses_L33 v0 v1 n (v2 + (1 : Int32)) σ20) else ((q_gr (q_gf σ20 12 v0 27)).bind fun x27 => (q_gi (q_ga σ20 20 x27 v1)).bind fun x28 => (q_gr (q_gf σ20 12 v0 27)).bind fun x29 => (q_gi (q_ga σ20 20 x29 v2)).bind fun x30 => (q_gr (q_gf σ20 12 v0 27)).bind fun x31 => (q_gi (q_ga σ20 20 x31 v1)).bind fun x32 => (q_gr (q_gf σ20 12 v0 27)).bind fun x33 => (q_gi (q_ga σ20 20 x33 v2)).bind fun x34 => q_sq (f_Mo_houses_L148 v0 v1 v2 (if x28 < x30 then x30 else x28) (if x34 < x32 then x34 else x32) q_FU (0 : Int32) σ20) fun (t44 : Unit) σ45 => f_Mo_houses_L33 v0 v1 n (v2 + (1 : Int32)) σ45)))) else (some ((), σ))
set_option maxRecDepth 100000 in
theorem l_Mo_houses_L33 {fo : Option Nat} {d : Nat} (hd : 5 ≤ d + 1) {o : q_O} {σ' : q_H} {E : (Unit) → q_H → Prop} (v0 : Nat) (v1 : Int32) (hX : ∀ (t : Unit) σ1, E (t) σ1 → q_G (q_rf fo) d m_Mo_houses o σ' 198 [some (.ref v0), some (.int v1), none, none, none, none, none] [] σ1)  : ∀ (n : Nat) (v2 : Int32) (σ : q_H), q_J E (f_Mo_houses_L33 v0 v1 n v2 σ) (q_G (q_rf fo) d m_Mo_houses o σ' 33 [some (.ref v0), some (.int v1), some (.int v2), none, none, none, none] [] σ)
  | 0, v2, σ => J_none
  | n + 1, v2, σ => by
    unfold f_Mo_houses_L33
    refine q_J.step (fun g => j_iload_n rfl rfl (j_bipush (24 : Int32) rfl kb_24 (g))) ?_
    refine J_ite (fun h7 => ?_) (fun h7 => ?_)
    · refine J_bind fun w8 hw8 => ?_
      refine J_cl fun x10 σ9 hσ9 => ?_
      refine q_J.step (fun g => j_icmp_f rfl (cc_ge_f h7) (j_aload_n rfl rfl (j_iload_n rfl rfl (j_v1 [.ref v0, .int v1] [] rfl rfl rfl rfl rfl rfl hw8 (Or.inl rfl) (t_Mo_isThere (by omega) hσ9) (g))))) ?_
      refine J_ite (fun h11 => ?_) (fun h11 => ?_)
      · exact J_some (fun h => j_if_t rfl (cc_eq_t h11) (j_weak (l := [some (.ref v0), some (.int v1), none, none, none, none, none]) (And.intro (Or.inr rfl) (And.intro (Or.inr rfl) (And.intro (Or.inl rfl) (And.intro (Or.inr rfl) (And.intro (Or.inr rfl) (And.intro (Or.inr rfl) (And.intro (Or.inr rfl) True.intro))))))) (hX _ _ h)))
      refine J_sq (fun (t19 : Int32) (σ20 : q_H) => q_G (q_rf fo) d m_Mo_houses o σ' 88 [some (.ref v0), some (.int v1), some (.int v2), some (.int t19), none, none, none] [] σ20) (q_J.step (fun g => j_if_f rfl (cc_eq_f h11) (j_iconst (0 : Int32) rfl k32_0 (j_istore_n [some (.ref v0), some (.int v1), some (.int v2), some (.int (0 : Int32)), none, none, none] rfl rfl (Or.inr rfl) rfl (j_iconst (0 : Int32) rfl k32_0 (j_istore [some (.ref v0), some (.int v1), some (.int v2), some (.int (0 : Int32)), some (.int (0 : Int32)), none, none] rfl rfl (Or.inr rfl) rfl (g)))))) (l_Mo_houses_L52 hd v0 v1 v2 (fun _ _ h => h) q_FU (0 : Int32) (0 : Int32) σ9)) (fun t19 σ20 => ?_)
      refine q_J.step (fun g => j_iload_n rfl rfl (j_iconst (2 : Int32) rfl k32_2 (g))) ?_
      refine J_ite (fun h21 => ?_) (fun h21 => ?_)
      · exact q_J.step (fun g => j_icmp_t rfl (cc_lt_t h21) (j_iinc [some (.ref v0), some (.int v1), some (.int (v2 + (1 : Int32))), some (.int t19), none, none, none] (v2 + (1 : Int32)) rfl rfl (by rw [k32_1]) (Or.inr rfl) rfl (j_goto rfl (j_weak (l := [some (.ref v0), some (.int v1), some (.int (v2 + (1 : Int32))), none, none, none, none]) (And.intro (Or.inr rfl) (And.intro (Or.inr rfl) (And.intro (Or.inr rfl) (And.intro (Or.inl rfl) (And.intro (Or.inr rfl) (And.intro (Or.inr rfl) (And.intro (Or.inr rfl) True.intro))))))) (g))))) (l_Mo_houses_L33 hd v0 v1 hX n (v2 + (1 : Int32)) σ20)
      refine J_bind fun x22 hx22 => ?_
      refine J_bind fun x23 hx23 => ?_
      refine J_bind fun x24 hx24 => ?_
      refine J_bind fun x25 hx25 => ?_
      refine q_J.step (fun g => j_icmp_f rfl (cc_lt_f h21) (j_aload_n rfl rfl (j_gfr rfl hx22 (j_iload_n rfl rfl (j_ial rfl hx23 (j_aload_n rfl rfl (j_gfr rfl hx24 (j_iload_n rfl rfl (j_ial rfl hx25 (g)))))))))) ?_
      refine J_ite (fun h26 => ?_) (fun h26 => ?_)
      · exact q_J.step (fun g => j_icmp_f rfl (cc_ne_f h26) (j_goto rfl (j_iinc [some (.ref v0), some (.int v1), some (.int (v2 + (1 : Int32))), some (.int t19), none, none, none] (v2 + (1 : Int32)) rfl rfl (by rw [k32_1]) (Or.inr rfl) rfl (j_goto rfl (j_weak (l := [some (.ref v0), some (.int v1), some (.int (v2 + (1 : Int32))), none, none, none, none]) (And.intro (Or.inr rfl) (And.intro (Or.inr rfl) (And.intro (Or.inr rfl) (And.intro (Or.inl rfl) (And.intro (Or.inr rfl) (And.intro (Or.inr rfl) (And.intro (Or.inr rfl) True.intro))))))) (g)))))) (l_Mo_houses_L33 hd v0 v1 hX n (v2 + (1 : Int32)) σ20)
      refine J_bind fun x27 hx27 => ?_
      refine J_bind fun x28 hx28 => ?_
      refine J_bind fun x29 hx29 => ?_
      refine J_bind fun x30 hx30 => ?_
      refine J_bind fun x31 hx31 => ?_
      refine J_bind fun x32 hx32 => ?_
      refine J_bind fun x33 hx33 => ?_
      refine J_bind fun x34 hx34 => ?_
      refine J_sq (fun (t44 : Unit) (σ45 : q_H) => q_G (q_rf fo) d m_Mo_houses o σ' 192 [some (.ref v0), some (.int v1), some (.int v2), none, none, none, none] [] σ45) (q_J.step (fun g => j_icmp_t rfl (cc_ne_t h26) (j_aload_n rfl rfl (j_gfr rfl hx27 (j_iload_n rfl rfl (j_ial rfl hx28 (j_aload_n rfl rfl (j_gfr rfl hx29 (j_iload_n rfl rfl (j_ial rfl hx30 (j_max rfl rfl (j_istore [some (.ref v0), some (.int v1), some (.int v2), some (.int t19), some (.int (if x28 < x30 then x30 else x28)), none, none] rfl rfl (Or.inr rfl) rfl (j_aload_n rfl rfl (j_gfr rfl hx31 (j_iload_n rfl rfl (j_ial rfl hx32 (j_aload_n rfl rfl (j_gfr rfl hx33 (j_iload_n rfl rfl (j_ial rfl hx34 (j_min rfl rfl (j_istore [some (.ref v0), some (.int v1), some (.int v2), some (.int t19), some (.int (if x28 < x30 then x30 else x28)), some (.int (if x34 < x32 then x34 else x32)), none] rfl rfl (Or.inr rfl) rfl (j_iconst (0 : Int32) rfl k32_0 (j_istore [some (.ref v0), some (.int v1), some (.int v2), some (.int t19), some (.int (if x28 < x30 then x30 else x28)), some (.int (if x34 < x32 then x34 else x32)), some (.int (0 : Int32))] rfl rfl (Or.inr rfl) rfl (j_weak (l := [some (.ref v0), some (.int v1), some (.int v2), none, some (.int (if x28 < x30 then x30 else x28)), some (.int (if x34 < x32 then x34 else x32)), some (.int (0 : Int32))]) (And.intro (Or.inr rfl) (And.intro (Or.inr rfl) (And.intro (Or.inr rfl) (And.intro (Or.inl rfl) (And.intro (Or.inr rfl) (And.intro (Or.inr rfl) (And.intro (Or.inr rfl) True.intro))))))) (g))))))))))))))))))))))))) (l_Mo_houses_L148 hd v0 v1 v2 (if x28 < x30 then x30 else x28) (if x34 < x32 then x34 else x32) (fun _ _ h => h) q_FU (0 : Int32) σ20)) (fun t44 σ45 => ?_)
      exact q_J.step (fun g => j_iinc [some (.ref v0), some (.int v1), some (.int (v2 + (1 : Int32))), none, none, none, none] (v2 + (1 : Int32)) rfl rfl (by rw [k32_1]) (Or.inr rfl) rfl (j_goto rfl (g))) (l_Mo_houses_L33 hd v0 v1 hX n (v2 + (1 : Int32)) σ45)
    exact J_some (fun h => j_icmp_t rfl (cc_ge_t h7) (j_weak (l := [some (.ref v0), some (.int v1), none, none, none, none, none]) (And.intro (Or.inr rfl) (And.intro (Or.inr rfl) (And.intro (Or.inl rfl) (And.intro (Or.inr rfl) (And.intro (Or.inr rfl) (And.intro (Or.inr rfl) (And.intro (Or.inr rfl) True.intro))))))) (hX _ _ h)))

def f_Mo_houses_L23 (v0 : Nat) : Nat → Int32 → q_H → Option ((Unit) × q_H)
  | 0, _, _ => none
  | n + 1, v1, σ => if v1 < (24 : Int32) then (q_sq (f_Mo_houses_L33 v0 v1 q_FU (v1 + (1 : Int32)) σ) fun (t46 : Unit) σ47 => f_Mo_houses_L23 v0 n (v1 + (1 : Int32)) σ47) else (some ((), σ))
set_option maxRecDepth 100000 in
theorem l_Mo_houses_L23 {fo : Option Nat} {d : Nat} (hd : 5 ≤ d + 1) {o : q_O} {σ' : q_H} {E : (Unit) → q_H → Prop} (v0 : Nat) (hX : ∀ (t : Unit) σ1, E (t) σ1 → q_G (q_rf fo) d m_Mo_houses o σ' 204 [none, none, none, none, none, none, none] [] σ1)  : ∀ (n : Nat) (v1 : Int32) (σ : q_H), q_J E (f_Mo_houses_L23 v0 n v1 σ) (q_G (q_rf fo) d m_Mo_houses o σ' 23 [some (.ref v0), some (.int v1), none, none, none, none, none] [] σ)
  | 0, v1, σ => J_none
  | n + 1, v1, σ => by
    unfold f_Mo_houses_L23
    refine q_J.step (fun g => j_iload_n rfl rfl (j_bipush (24 : Int32) rfl kb_24 (g))) ?_
    refine J_ite (fun h6 => ?_) (fun h6 => ?_)
    · refine J_sq (fun (t46 : Unit) (σ47 : q_H) => q_G (q_rf fo) d m_Mo_houses o σ' 198 [some (.ref v0), some (.int v1), none, none, none, none, none] [] σ47) (q_J.step (fun g => j_icmp_f rfl (cc_ge_f h6) (j_iload_n rfl rfl (j_iconst (1 : Int32) rfl k32_1 (j_iadd rfl (j_istore_n [some (.ref v0), some (.int v1), some (.int (v1 + (1 : Int32))), none, none, none, none] rfl rfl (Or.inr rfl) rfl (g)))))) (l_Mo_houses_L33 hd v0 v1 (fun _ _ h => h) q_FU (v1 + (1 : Int32)) σ)) (fun t46 σ47 => ?_)
      exact q_J.step (fun g => j_iinc [some (.ref v0), some (.int (v1 + (1 : Int32))), none, none, none, none, none] (v1 + (1 : Int32)) rfl rfl (by rw [k32_1]) (Or.inr rfl) rfl (j_goto rfl (g))) (l_Mo_houses_L23 hd v0 hX n (v1 + (1 : Int32)) σ47)
    exact J_some (fun h => j_icmp_t rfl (cc_ge_t h6) (j_weak (l := [none, none, none, none, none, none, none]) (And.intro (Or.inl rfl) (And.intro (Or.inl rfl) (And.intro (Or.inr rfl) (And.intro (Or.inr rfl) (And.intro (Or.inr rfl) (And.intro (Or.inr rfl) (And.intro (Or.inr rfl) True.intro))))))) (hX _ _ h)))

def f_Mo_houses (v0 : Nat) (σ : q_H) : Option ((Unit) × q_H) := q_sq (f_Mo_houses_L2 v0 q_FU (0 : Int32) σ) fun (t4 : Unit) σ5 => q_sq (f_Mo_houses_L23 v0 q_FU (0 : Int32) σ5) fun (t48 : Unit) σ49 => some ((), σ49)
set_option maxRecDepth 100000 in
theorem b_Mo_houses {fo : Option Nat} {d : Nat} (hd : 5 ≤ d + 1) {o : q_O} {σ' : q_H} (v0 : Nat) (σ : q_H) : q_J (fun (r : Unit) (σ1 : q_H) => o = .inl none ∧ σ' = σ1) (f_Mo_houses v0 σ) (q_G (q_rf fo) d m_Mo_houses o σ' 0 [some (.ref v0), none, none, none, none, none, none] [] σ) := by
  unfold f_Mo_houses
  refine J_sq (fun (t4 : Unit) (σ5 : q_H) => q_G (q_rf fo) d m_Mo_houses o σ' 21 [some (.ref v0), none, none, none, none, none, none] [] σ5) (q_J.step (fun g => j_iconst (0 : Int32) rfl k32_0 (j_istore_n [some (.ref v0), some (.int (0 : Int32)), none, none, none, none, none] rfl rfl (Or.inr rfl) rfl (g))) (l_Mo_houses_L2 hd v0 (fun _ _ h => h) q_FU (0 : Int32) σ)) (fun t4 σ5 => ?_)
  refine J_sq (fun (t48 : Unit) (σ49 : q_H) => q_G (q_rf fo) d m_Mo_houses o σ' 204 [none, none, none, none, none, none, none] [] σ49) (q_J.step (fun g => j_iconst (0 : Int32) rfl k32_0 (j_istore_n [some (.ref v0), some (.int (0 : Int32)), none, none, none, none, none] rfl rfl (Or.inr rfl) rfl (g))) (l_Mo_houses_L23 hd v0 (fun _ _ h => h) q_FU (0 : Int32) σ5)) (fun t48 σ49 => ?_)
  exact J_some (fun h => j_vret rfl rfl h)
theorem t_Mo_houses {fo : Option Nat} {d : Nat} (hd : 5 ≤ d) {v0 : Nat} {σ σ1 : q_H} {r : Unit} (h : f_Mo_houses v0 σ = some (r, σ1)) : q_Rel (q_rf fo) q_Ms d 225 [.ref v0] σ (.inl none) σ1 := by
  obtain ⟨d, rfl⟩ : ∃ d1, d = d1 + 1 := ⟨d - 1, by omega⟩
  exact q_Rel.of rfl rfl (b_Mo_houses hd _ σ _ _ h ⟨rfl, rfl⟩)

def f_Mo_knows_L22 (v0 : Nat) (v1 : Int32) (v2 : Int32) : Nat → Int32 → q_H → Option ((Unit) × q_H)
  | 0, _, _ => none
  | n + 1, v3, σ => if v3 < (24 : Int32) then ((q_ob σ 12 v0).bind fun w10 => q_sq (f_Mo_oneOf v0 v1 v2 v3 σ) fun x12 σ11 => if x12 < (0 : Int32) then (f_Mo_knows_L22 v0 v1 v2 n (v3 + (1 : Int32)) σ11) else ((q_gi (q_gf σ11 12 v0 28)).bind fun x14 => (q_ob σ11 12 v0).bind fun w15 => q_sq (f_Mo_firstBorn v0 v3 x12 σ11) fun x17 σ16 => (q_sf σ16 12 v0 28 (.int (if x14 < x17 then x17 else x14))).bind fun σ18 => (q_gi (q_gf σ18 12 v0 29)).bind fun x19 => (q_ob σ18 12 v0).bind fun w20 => q_sq (f_Mo_lastBorn v0 v3 x12 σ18) fun x22 σ21 => (q_sf σ21 12 v0 29 (.int (if x22 < x19 then x22 else x19))).bind fun σ23 => f_Mo_knows_L22 v0 v1 v2 n (v3 + (1 : Int32)) σ23)) else (some ((), σ))
set_option maxRecDepth 100000 in
theorem l_Mo_knows_L22 {fo : Option Nat} {d : Nat} (hd : 5 ≤ d + 1) {o : q_O} {σ' : q_H} {E : (Unit) → q_H → Prop} (v0 : Nat) (v1 : Int32) (v2 : Int32) (hX : ∀ (t : Unit) σ1, E (t) σ1 → q_G (q_rf fo) d m_Mo_knows o σ' 87 [none, none, none, none, none] [] σ1)  : ∀ (n : Nat) (v3 : Int32) (σ : q_H), q_J E (f_Mo_knows_L22 v0 v1 v2 n v3 σ) (q_G (q_rf fo) d m_Mo_knows o σ' 22 [some (.ref v0), some (.int v1), some (.int v2), some (.int v3), none] [] σ)
  | 0, v3, σ => J_none
  | n + 1, v3, σ => by
    unfold f_Mo_knows_L22
    refine q_J.step (fun g => j_iload_n rfl rfl (j_bipush (24 : Int32) rfl kb_24 (g))) ?_
    refine J_ite (fun h9 => ?_) (fun h9 => ?_)
    · refine J_bind fun w10 hw10 => ?_
      refine J_cl fun x12 σ11 hσ11 => ?_
      refine q_J.step (fun g => j_icmp_f rfl (cc_ge_f h9) (j_aload_n rfl rfl (j_iload_n rfl rfl (j_iload_n rfl rfl (j_iload_n rfl rfl (j_v1 [.ref v0, .int v1, .int v2, .int v3] [] rfl rfl rfl rfl rfl rfl hw10 (Or.inl rfl) (t_Mo_oneOf (by omega) hσ11) (j_istore [some (.ref v0), some (.int v1), some (.int v2), some (.int v3), some (.int x12)] rfl rfl (Or.inr rfl) rfl (j_iload rfl rfl (g))))))))) ?_
      refine J_ite (fun h13 => ?_) (fun h13 => ?_)
      · exact q_J.step (fun g => j_if_f rfl (cc_ge_f h13) (j_goto rfl (j_iinc [some (.ref v0), some (.int v1), some (.int v2), some (.int (v3 + (1 : Int32))), some (.int x12)] (v3 + (1 : Int32)) rfl rfl (by rw [k32_1]) (Or.inr rfl) rfl (j_goto rfl (j_weak (l := [some (.ref v0), some (.int v1), some (.int v2), some (.int (v3 + (1 : Int32))), none]) (And.intro (Or.inr rfl) (And.intro (Or.inr rfl) (And.intro (Or.inr rfl) (And.intro (Or.inr rfl) (And.intro (Or.inl rfl) True.intro))))) (g)))))) (l_Mo_knows_L22 hd v0 v1 v2 hX n (v3 + (1 : Int32)) σ11)
      refine J_bind fun x14 hx14 => ?_
      refine J_bind fun w15 hw15 => ?_
      refine J_cl fun x17 σ16 hσ16 => ?_
      refine J_bind fun σ18 hσ18 => ?_
      refine J_bind fun x19 hx19 => ?_
      refine J_bind fun w20 hw20 => ?_
      refine J_cl fun x22 σ21 hσ21 => ?_
      refine J_bind fun σ23 hσ23 => ?_
      exact q_J.step (fun g => j_if_t rfl (cc_ge_t h13) (j_aload_n rfl rfl (j_aload_n rfl rfl (j_gfi rfl hx14 (j_aload_n rfl rfl (j_iload_n rfl rfl (j_iload rfl rfl (j_v1 [.ref v0, .int v3, .int x12] [.int x14, .ref v0] rfl rfl rfl rfl rfl rfl hw15 (Or.inl rfl) (t_Mo_firstBorn (by omega) hσ16) (j_max rfl rfl (j_putf rfl rfl rfl rfl hσ18 (j_aload_n rfl rfl (j_aload_n rfl rfl (j_gfi rfl hx19 (j_aload_n rfl rfl (j_iload_n rfl rfl (j_iload rfl rfl (j_v1 [.ref v0, .int v3, .int x12] [.int x19, .ref v0] rfl rfl rfl rfl rfl rfl hw20 (Or.inl rfl) (t_Mo_lastBorn (by omega) hσ21) (j_min rfl rfl (j_putf rfl rfl rfl rfl hσ23 (j_iinc [some (.ref v0), some (.int v1), some (.int v2), some (.int (v3 + (1 : Int32))), some (.int x12)] (v3 + (1 : Int32)) rfl rfl (by rw [k32_1]) (Or.inr rfl) rfl (j_goto rfl (j_weak (l := [some (.ref v0), some (.int v1), some (.int v2), some (.int (v3 + (1 : Int32))), none]) (And.intro (Or.inr rfl) (And.intro (Or.inr rfl) (And.intro (Or.inr rfl) (And.intro (Or.inr rfl) (And.intro (Or.inl rfl) True.intro))))) (g))))))))))))))))))))))) (l_Mo_knows_L22 hd v0 v1 v2 hX n (v3 + (1 : Int32)) σ23)
    exact J_some (fun h => j_icmp_t rfl (cc_ge_t h9) (j_weak (l := [none, none, none, none, none]) (And.intro (Or.inl rfl) (And.intro (Or.inl rfl) (And.intro (Or.inl rfl) (And.intro (Or.inl rfl) (And.intro (Or.inr rfl) True.intro))))) (hX _ _ h)))

def f_Mo_knows (v0 : Nat) (v1 : Int32) (v2 : Int32) (σ : q_H) : Option ((Unit) × q_H) := (q_ob σ 12 v0).bind fun w1 => q_sq (f_Mo_firstBorn v0 v1 v2 σ) fun x3 σ2 => (q_sf σ2 12 v0 28 (.int x3)).bind fun σ4 => (q_ob σ4 12 v0).bind fun w5 => q_sq (f_Mo_lastBorn v0 v1 v2 σ4) fun x7 σ6 => (q_sf σ6 12 v0 29 (.int x7)).bind fun σ8 => q_sq (f_Mo_knows_L22 v0 v1 v2 q_FU (0 : Int32) σ8) fun (t24 : Unit) σ25 => some ((), σ25)
set_option maxRecDepth 100000 in
theorem b_Mo_knows {fo : Option Nat} {d : Nat} (hd : 5 ≤ d + 1) {o : q_O} {σ' : q_H} (v0 : Nat) (v1 : Int32) (v2 : Int32) (σ : q_H) : q_J (fun (r : Unit) (σ1 : q_H) => o = .inl none ∧ σ' = σ1) (f_Mo_knows v0 v1 v2 σ) (q_G (q_rf fo) d m_Mo_knows o σ' 0 [some (.ref v0), some (.int v1), some (.int v2), none, none] [] σ) := by
  unfold f_Mo_knows
  refine J_bind fun w1 hw1 => ?_
  refine J_cl fun x3 σ2 hσ2 => ?_
  refine J_bind fun σ4 hσ4 => ?_
  refine J_bind fun w5 hw5 => ?_
  refine J_cl fun x7 σ6 hσ6 => ?_
  refine J_bind fun σ8 hσ8 => ?_
  refine J_sq (fun (t24 : Unit) (σ25 : q_H) => q_G (q_rf fo) d m_Mo_knows o σ' 87 [none, none, none, none, none] [] σ25) (q_J.step (fun g => j_aload_n rfl rfl (j_aload_n rfl rfl (j_iload_n rfl rfl (j_iload_n rfl rfl (j_v1 [.ref v0, .int v1, .int v2] [.ref v0] rfl rfl rfl rfl rfl rfl hw1 (Or.inl rfl) (t_Mo_firstBorn (by omega) hσ2) (j_putf rfl rfl rfl rfl hσ4 (j_aload_n rfl rfl (j_aload_n rfl rfl (j_iload_n rfl rfl (j_iload_n rfl rfl (j_v1 [.ref v0, .int v1, .int v2] [.ref v0] rfl rfl rfl rfl rfl rfl hw5 (Or.inl rfl) (t_Mo_lastBorn (by omega) hσ6) (j_putf rfl rfl rfl rfl hσ8 (j_iconst (0 : Int32) rfl k32_0 (j_istore_n [some (.ref v0), some (.int v1), some (.int v2), some (.int (0 : Int32)), none] rfl rfl (Or.inr rfl) rfl (g))))))))))))))) (l_Mo_knows_L22 hd v0 v1 v2 (fun _ _ h => h) q_FU (0 : Int32) σ8)) (fun t24 σ25 => ?_)
  exact J_some (fun h => j_vret rfl rfl h)
theorem t_Mo_knows {fo : Option Nat} {d : Nat} (hd : 5 ≤ d) {v0 : Nat} {v1 : Int32} {v2 : Int32} {σ σ1 : q_H} {r : Unit} (h : f_Mo_knows v0 v1 v2 σ = some (r, σ1)) : q_Rel (q_rf fo) q_Ms d 227 [.ref v0, .int v1, .int v2] σ (.inl none) σ1 := by
  obtain ⟨d, rfl⟩ : ∃ d1, d = d1 + 1 := ⟨d - 1, by omega⟩
  exact q_Rel.of rfl rfl (b_Mo_knows hd _ _ _ σ _ _ h ⟨rfl, rfl⟩)

def f_Mo_fit (v0 : Nat) (v1 : Int32) (v2 : Int32) (σ : q_H) : Option ((Int64) × q_H) := (q_sf σ 12 v0 0 (.int (0 : Int32))).bind fun σ1 => q_sq (f_Mo_isTable v1 σ1) fun x3 σ2 => if x3 = (0 : Int32) then (some ((-1 : Int64), σ2)) else (q_sq (f_Mo_within v2 (0 : Int32) (16 : Int32) σ2) fun x6 σ5 => if x6 = (0 : Int32) then (some ((-1 : Int64), σ5)) else ((q_ob σ5 12 v0).bind fun w8 => q_sq (f_Mo_fitOf v0 v1 v2 σ5) fun x10 σ9 => some (x10, σ9)))
set_option maxRecDepth 100000 in
theorem b_Mo_fit {fo : Option Nat} {d : Nat} (hd : 5 ≤ d + 1) {o : q_O} {σ' : q_H} (v0 : Nat) (v1 : Int32) (v2 : Int32) (σ : q_H) : q_J (fun (r : Int64) (σ1 : q_H) => o = .inl (some (.long r)) ∧ σ' = σ1) (f_Mo_fit v0 v1 v2 σ) (q_G (q_rf fo) d m_Mo_fit o σ' 0 [some (.ref v0), some (.int v1), some (.int v2)] [] σ) := by
  unfold f_Mo_fit
  refine J_bind fun σ1 hσ1 => ?_
  refine J_cl fun x3 σ2 hσ2 => ?_
  refine q_J.step (fun g => j_aload_n rfl rfl (j_iconst (0 : Int32) rfl k32_0 (j_putf rfl rfl rfl rfl hσ1 (j_iload_n rfl rfl (j_s1 [.int v1] [] rfl rfl rfl rfl rfl (t_Mo_isTable (by omega) hσ2) (g)))))) ?_
  refine J_ite (fun h4 => ?_) (fun h4 => ?_)
  · exact J_some (fun h => j_if_t rfl (cc_eq_t h4) (j_ldc2 (-1 : Int64) rfl kw_m1 (j_lret rfl rfl h)))
  refine J_cl fun x6 σ5 hσ5 => ?_
  refine q_J.step (fun g => j_if_f rfl (cc_eq_f h4) (j_iload_n rfl rfl (j_iconst (0 : Int32) rfl k32_0 (j_bipush (16 : Int32) rfl kb_16 (j_s1 [.int v2, .int (0 : Int32), .int (16 : Int32)] [] rfl rfl rfl rfl rfl (t_Mo_within (by omega) hσ5) (g)))))) ?_
  refine J_ite (fun h7 => ?_) (fun h7 => ?_)
  · exact J_some (fun h => j_if_t rfl (cc_eq_t h7) (j_ldc2 (-1 : Int64) rfl kw_m1 (j_lret rfl rfl h)))
  refine J_bind fun w8 hw8 => ?_
  refine J_cl fun x10 σ9 hσ9 => ?_
  exact J_some (fun h => j_if_f rfl (cc_eq_f h7) (j_aload_n rfl rfl (j_iload_n rfl rfl (j_iload_n rfl rfl (j_v1 [.ref v0, .int v1, .int v2] [] rfl rfl rfl rfl rfl rfl hw8 (Or.inl rfl) (t_Mo_fitOf (by omega) hσ9) (j_goto rfl (j_lret rfl rfl h)))))))
theorem t_Mo_fit {fo : Option Nat} {d : Nat} (hd : 5 ≤ d) {v0 : Nat} {v1 : Int32} {v2 : Int32} {σ σ1 : q_H} {r : Int64} (h : f_Mo_fit v0 v1 v2 σ = some (r, σ1)) : q_Rel (q_rf fo) q_Ms d 237 [.ref v0, .int v1, .int v2] σ (.inl (some (.long r))) σ1 := by
  obtain ⟨d, rfl⟩ : ∃ d1, d = d1 + 1 := ⟨d - 1, by omega⟩
  exact q_Rel.of rfl rfl (b_Mo_fit hd _ _ _ σ _ _ h ⟨rfl, rfl⟩)

