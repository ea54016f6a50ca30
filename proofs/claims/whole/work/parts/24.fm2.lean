/-! Methods of the reference. -/
def f_Mo_nextToken_L0 (v0 : Nat) : Nat → q_H → Option ((Unit) × q_H)
  | 0, _ => none
  | n + 1, σ => (q_gi (q_gf σ 12 v0 19)).bind fun x1 => (q_gi (q_gf σ 12 v0 18)).bind fun x2 => if x1 < x2 then ((q_gr (q_gf σ 12 v0 17)).bind fun x4 => (q_gi (q_gf σ 12 v0 19)).bind fun x5 => (q_gi (q_ga σ 20 x4 x5)).bind fun x6 => if x6 = (32 : Int32) then ((q_gi (q_gf σ 12 v0 19)).bind fun x8 => (q_sf σ 12 v0 19 (.int (x8 + (1 : Int32)))).bind fun σ9 => f_Mo_nextToken_L0 v0 n σ9) else ((q_gr (q_gf σ 12 v0 17)).bind fun x10 => (q_gi (q_gf σ 12 v0 19)).bind fun x11 => (q_gi (q_ga σ 20 x10 x11)).bind fun x12 => if x12 = (10 : Int32) then ((q_gi (q_gf σ 12 v0 19)).bind fun x14 => (q_sf σ 12 v0 19 (.int (x14 + (1 : Int32)))).bind fun σ15 => f_Mo_nextToken_L0 v0 n σ15) else (some ((), σ)))) else (some ((), σ))
set_option maxRecDepth 100000 in
theorem l_Mo_nextToken_L0 {fo : Option Nat} {d : Nat} (hd : 2 ≤ d + 1) {o : q_O} {σ' : q_H} {E : (Unit) → q_H → Prop} (v0 : Nat) (hX : ∀ (t : Unit) σ1, E (t) σ1 → q_G (q_rf fo) d m_Mo_nextToken o σ' 52 [some (.ref v0), none] [] σ1)  : ∀ (n : Nat) (σ : q_H), q_J E (f_Mo_nextToken_L0 v0 n σ) (q_G (q_rf fo) d m_Mo_nextToken o σ' 0 [some (.ref v0), none] [] σ)
  | 0, σ => J_none
  | n + 1, σ => by
    unfold f_Mo_nextToken_L0
    refine J_bind fun x1 hx1 => ?_
    refine J_bind fun x2 hx2 => ?_
    refine q_J.step (fun g => j_aload_n rfl rfl (j_gfi rfl hx1 (j_aload_n rfl rfl (j_gfi rfl hx2 (g))))) ?_
    refine J_ite (fun h3 => ?_) (fun h3 => ?_)
    · refine J_bind fun x4 hx4 => ?_
      refine J_bind fun x5 hx5 => ?_
      refine J_bind fun x6 hx6 => ?_
      refine q_J.step (fun g => j_icmp_f rfl (cc_ge_f h3) (j_aload_n rfl rfl (j_gfr rfl hx4 (j_aload_n rfl rfl (j_gfi rfl hx5 (j_ial rfl hx6 (j_bipush (32 : Int32) rfl kb_32 (g)))))))) ?_
      refine J_ite (fun h7 => ?_) (fun h7 => ?_)
      · refine J_bind fun x8 hx8 => ?_
        refine J_bind fun σ9 hσ9 => ?_
        exact q_J.step (fun g => j_icmp_t rfl (cc_eq_t h7) (j_aload_n rfl rfl (j_dup rfl rfl (j_gfi rfl hx8 (j_iconst (1 : Int32) rfl k32_1 (j_iadd rfl (j_putf rfl rfl rfl rfl hσ9 (j_goto rfl (g))))))))) (l_Mo_nextToken_L0 hd v0 hX n σ9)
      refine J_bind fun x10 hx10 => ?_
      refine J_bind fun x11 hx11 => ?_
      refine J_bind fun x12 hx12 => ?_
      refine q_J.step (fun g => j_icmp_f rfl (cc_eq_f h7) (j_aload_n rfl rfl (j_gfr rfl hx10 (j_aload_n rfl rfl (j_gfi rfl hx11 (j_ial rfl hx12 (j_bipush (10 : Int32) rfl kb_10 (g)))))))) ?_
      refine J_ite (fun h13 => ?_) (fun h13 => ?_)
      · refine J_bind fun x14 hx14 => ?_
        refine J_bind fun σ15 hσ15 => ?_
        exact q_J.step (fun g => j_icmp_f rfl (cc_ne_f h13) (j_aload_n rfl rfl (j_dup rfl rfl (j_gfi rfl hx14 (j_iconst (1 : Int32) rfl k32_1 (j_iadd rfl (j_putf rfl rfl rfl rfl hσ15 (j_goto rfl (g))))))))) (l_Mo_nextToken_L0 hd v0 hX n σ15)
      exact J_some (fun h => j_icmp_t rfl (cc_ne_t h13) (hX _ _ h))
    exact J_some (fun h => j_icmp_t rfl (cc_ge_t h3) (hX _ _ h))

def f_Mo_nextToken_L224 (v0 : Nat) : Nat → q_H → Option ((Unit) × q_H)
  | 0, _ => none
  | n + 1, σ => (q_gi (q_gf σ 12 v0 19)).bind fun x70 => (q_ob σ 12 v0).bind fun w71 => q_sq (f_Mo_signAt v0 x70 σ) fun x73 σ72 => if x73 < (48 : Int32) then (some ((), σ72)) else ((q_gi (q_gf σ72 12 v0 19)).bind fun x75 => (q_ob σ72 12 v0).bind fun w76 => q_sq (f_Mo_signAt v0 x75 σ72) fun x78 σ77 => if (57 : Int32) < x78 then (some ((), σ77)) else ((q_gi (q_gf σ77 12 v0 19)).bind fun x80 => (q_gi (q_gf σ77 12 v0 20)).bind fun x81 => if (x80 - x81) < (4 : Int32) then ((q_gi (q_gf σ77 12 v0 23)).bind fun x83 => (q_gi (q_gf σ77 12 v0 19)).bind fun x84 => (q_ob σ77 12 v0).bind fun w85 => q_sq (f_Mo_signAt v0 x84 σ77) fun x87 σ86 => (q_sf σ86 12 v0 23 (.int (((x83 * (10 : Int32)) + x87) - (48 : Int32)))).bind fun σ88 => (q_gi (q_gf σ88 12 v0 19)).bind fun x89 => (q_sf σ88 12 v0 19 (.int (x89 + (1 : Int32)))).bind fun σ90 => f_Mo_nextToken_L224 v0 n σ90) else ((q_gi (q_gf σ77 12 v0 19)).bind fun x91 => (q_sf σ77 12 v0 19 (.int (x91 + (1 : Int32)))).bind fun σ92 => f_Mo_nextToken_L224 v0 n σ92)))
set_option maxRecDepth 100000 in
theorem l_Mo_nextToken_L224 {fo : Option Nat} {d : Nat} (hd : 2 ≤ d + 1) {o : q_O} {σ' : q_H} {E : (Unit) → q_H → Prop} (v0 : Nat) (hX : ∀ (t : Unit) σ1, E (t) σ1 → q_G (q_rf fo) d m_Mo_nextToken o σ' 299 [some (.ref v0), none] [] σ1)  : ∀ (n : Nat) (σ : q_H), q_J E (f_Mo_nextToken_L224 v0 n σ) (q_G (q_rf fo) d m_Mo_nextToken o σ' 224 [some (.ref v0), none] [] σ)
  | 0, σ => J_none
  | n + 1, σ => by
    unfold f_Mo_nextToken_L224
    refine J_bind fun x70 hx70 => ?_
    refine J_bind fun w71 hw71 => ?_
    refine J_cl fun x73 σ72 hσ72 => ?_
    refine q_J.step (fun g => j_aload_n rfl rfl (j_aload_n rfl rfl (j_gfi rfl hx70 (j_v1 [.ref v0, .int x70] [] rfl rfl rfl rfl rfl rfl hw71 (Or.inl rfl) (t_Mo_signAt (by omega) hσ72) (j_bipush (48 : Int32) rfl kb_48 (g)))))) ?_
    refine J_ite (fun h74 => ?_) (fun h74 => ?_)
    · exact J_some (fun h => j_icmp_t rfl (cc_lt_t h74) (hX _ _ h))
    refine J_bind fun x75 hx75 => ?_
    refine J_bind fun w76 hw76 => ?_
    refine J_cl fun x78 σ77 hσ77 => ?_
    refine q_J.step (fun g => j_icmp_f rfl (cc_lt_f h74) (j_aload_n rfl rfl (j_aload_n rfl rfl (j_gfi rfl hx75 (j_v1 [.ref v0, .int x75] [] rfl rfl rfl rfl rfl rfl hw76 (Or.inl rfl) (t_Mo_signAt (by omega) hσ77) (j_bipush (57 : Int32) rfl kb_57 (g))))))) ?_
    refine J_ite (fun h79 => ?_) (fun h79 => ?_)
    · exact J_some (fun h => j_icmp_t rfl (cc_gt_t h79) (hX _ _ h))
    refine J_bind fun x80 hx80 => ?_
    refine J_bind fun x81 hx81 => ?_
    refine q_J.step (fun g => j_icmp_f rfl (cc_gt_f h79) (j_aload_n rfl rfl (j_gfi rfl hx80 (j_aload_n rfl rfl (j_gfi rfl hx81 (j_isub rfl (j_iconst (4 : Int32) rfl k32_4 (g)))))))) ?_
    refine J_ite (fun h82 => ?_) (fun h82 => ?_)
    · refine J_bind fun x83 hx83 => ?_
      refine J_bind fun x84 hx84 => ?_
      refine J_bind fun w85 hw85 => ?_
      refine J_cl fun x87 σ86 hσ86 => ?_
      refine J_bind fun σ88 hσ88 => ?_
      refine J_bind fun x89 hx89 => ?_
      refine J_bind fun σ90 hσ90 => ?_
      exact q_J.step (fun g => j_icmp_f rfl (cc_ge_f h82) (j_aload_n rfl rfl (j_aload_n rfl rfl (j_gfi rfl hx83 (j_bipush (10 : Int32) rfl kb_10 (j_imul rfl (j_aload_n rfl rfl (j_aload_n rfl rfl (j_gfi rfl hx84 (j_v1 [.ref v0, .int x84] [.int (x83 * (10 : Int32)), .ref v0] rfl rfl rfl rfl rfl rfl hw85 (Or.inl rfl) (t_Mo_signAt (by omega) hσ86) (j_iadd rfl (j_bipush (48 : Int32) rfl kb_48 (j_isub rfl (j_putf rfl rfl rfl rfl hσ88 (j_aload_n rfl rfl (j_dup rfl rfl (j_gfi rfl hx89 (j_iconst (1 : Int32) rfl k32_1 (j_iadd rfl (j_putf rfl rfl rfl rfl hσ90 (j_goto rfl (g)))))))))))))))))))))) (l_Mo_nextToken_L224 hd v0 hX n σ90)
    refine J_bind fun x91 hx91 => ?_
    refine J_bind fun σ92 hσ92 => ?_
    exact q_J.step (fun g => j_icmp_t rfl (cc_ge_t h82) (j_aload_n rfl rfl (j_dup rfl rfl (j_gfi rfl hx91 (j_iconst (1 : Int32) rfl k32_1 (j_iadd rfl (j_putf rfl rfl rfl rfl hσ92 (j_goto rfl (g))))))))) (l_Mo_nextToken_L224 hd v0 hX n σ92)

def f_Mo_nextToken_L224 (v0 : Nat) : Nat → q_H → Option ((Unit) × q_H)
  | 0, _ => none
  | n + 1, σ => (q_gi (q_gf σ 12 v0 19)).bind fun x141 => (q_ob σ 12 v0).bind fun w142 => q_sq (f_Mo_signAt v0 x141 σ) fun x144 σ143 => if x144 < (48 : Int32) then (some ((), σ143)) else ((q_gi (q_gf σ143 12 v0 19)).bind fun x146 => (q_ob σ143 12 v0).bind fun w147 => q_sq (f_Mo_signAt v0 x146 σ143) fun x149 σ148 => if (57 : Int32) < x149 then (some ((), σ148)) else ((q_gi (q_gf σ148 12 v0 19)).bind fun x151 => (q_gi (q_gf σ148 12 v0 20)).bind fun x152 => if (x151 - x152) < (4 : Int32) then ((q_gi (q_gf σ148 12 v0 23)).bind fun x154 => (q_gi (q_gf σ148 12 v0 19)).bind fun x155 => (q_ob σ148 12 v0).bind fun w156 => q_sq (f_Mo_signAt v0 x155 σ148) fun x158 σ157 => (q_sf σ157 12 v0 23 (.int (((x154 * (10 : Int32)) + x158) - (48 : Int32)))).bind fun σ159 => (q_gi (q_gf σ159 12 v0 19)).bind fun x160 => (q_sf σ159 12 v0 19 (.int (x160 + (1 : Int32)))).bind fun σ161 => f_Mo_nextToken_L224 v0 n σ161) else ((q_gi (q_gf σ148 12 v0 19)).bind fun x162 => (q_sf σ148 12 v0 19 (.int (x162 + (1 : Int32)))).bind fun σ163 => f_Mo_nextToken_L224 v0 n σ163)))
set_option maxRecDepth 100000 in
theorem l_Mo_nextToken_L224 {fo : Option Nat} {d : Nat} (hd : 2 ≤ d + 1) {o : q_O} {σ' : q_H} {E : (Unit) → q_H → Prop} (v0 : Nat) (hX : ∀ (t : Unit) σ1, E (t) σ1 → q_G (q_rf fo) d m_Mo_nextToken o σ' 299 [some (.ref v0), none] [] σ1)  : ∀ (n : Nat) (σ : q_H), q_J E (f_Mo_nextToken_L224 v0 n σ) (q_G (q_rf fo) d m_Mo_nextToken o σ' 224 [some (.ref v0), none] [] σ)
  | 0, σ => J_none
  | n + 1, σ => by
    unfold f_Mo_nextToken_L224
    refine J_bind fun x141 hx141 => ?_
    refine J_bind fun w142 hw142 => ?_
    refine J_cl fun x144 σ143 hσ143 => ?_
    refine q_J.step (fun g => j_aload_n rfl rfl (j_aload_n rfl rfl (j_gfi rfl hx141 (j_v1 [.ref v0, .int x141] [] rfl rfl rfl rfl rfl rfl hw142 (Or.inl rfl) (t_Mo_signAt (by omega) hσ143) (j_bipush (48 : Int32) rfl kb_48 (g)))))) ?_
    refine J_ite (fun h145 => ?_) (fun h145 => ?_)
    · exact J_some (fun h => j_icmp_t rfl (cc_lt_t h145) (hX _ _ h))
    refine J_bind fun x146 hx146 => ?_
    refine J_bind fun w147 hw147 => ?_
    refine J_cl fun x149 σ148 hσ148 => ?_
    refine q_J.step (fun g => j_icmp_f rfl (cc_lt_f h145) (j_aload_n rfl rfl (j_aload_n rfl rfl (j_gfi rfl hx146 (j_v1 [.ref v0, .int x146] [] rfl rfl rfl rfl rfl rfl hw147 (Or.inl rfl) (t_Mo_signAt (by omega) hσ148) (j_bipush (57 : Int32) rfl kb_57 (g))))))) ?_
    refine J_ite (fun h150 => ?_) (fun h150 => ?_)
    · exact J_some (fun h => j_icmp_t rfl (cc_gt_t h150) (hX _ _ h))
    refine J_bind fun x151 hx151 => ?_
    refine J_bind fun x152 hx152 => ?_
    refine q_J.step (fun g => j_icmp_f rfl (cc_gt_f h150) (j_aload_n rfl rfl (j_gfi rfl hx151 (j_aload_n rfl rfl (j_gfi rfl hx152 (j_isub rfl (j_iconst (4 : Int32) rfl k32_4 (g)))))))) ?_
    refine J_ite (fun h153 => ?_) (fun h153 => ?_)
    · refine J_bind fun x154 hx154 => ?_
      refine J_bind fun x155 hx155 => ?_
      refine J_bind fun w156 hw156 => ?_
      refine J_cl fun x158 σ157 hσ157 => ?_
      refine J_bind fun σ159 hσ159 => ?_
      refine J_bind fun x160 hx160 => ?_
      refine J_bind fun σ161 hσ161 => ?_
      exact q_J.step (fun g => j_icmp_f rfl (cc_ge_f h153) (j_aload_n rfl rfl (j_aload_n rfl rfl (j_gfi rfl hx154 (j_bipush (10 : Int32) rfl kb_10 (j_imul rfl (j_aload_n rfl rfl (j_aload_n rfl rfl (j_gfi rfl hx155 (j_v1 [.ref v0, .int x155] [.int (x154 * (10 : Int32)), .ref v0] rfl rfl rfl rfl rfl rfl hw156 (Or.inl rfl) (t_Mo_signAt (by omega) hσ157) (j_iadd rfl (j_bipush (48 : Int32) rfl kb_48 (j_isub rfl (j_putf rfl rfl rfl rfl hσ159 (j_aload_n rfl rfl (j_dup rfl rfl (j_gfi rfl hx160 (j_iconst (1 : Int32) rfl k32_1 (j_iadd rfl (j_putf rfl rfl rfl rfl hσ161 (j_goto rfl (g)))))))))))))))))))))) (l_Mo_nextToken_L224 hd v0 hX n σ161)
    refine J_bind fun x162 hx162 => ?_
    refine J_bind fun σ163 hσ163 => ?_
    exact q_J.step (fun g => j_icmp_t rfl (cc_ge_t h153) (j_aload_n rfl rfl (j_dup rfl rfl (j_gfi rfl hx162 (j_iconst (1 : Int32) rfl k32_1 (j_iadd rfl (j_putf rfl rfl rfl rfl hσ163 (j_goto rfl (g))))))))) (l_Mo_nextToken_L224 hd v0 hX n σ163)

def f_Mo_nextToken_L109 (v0 : Nat) : Nat → q_H → Option ((Unit) × q_H)
  | 0, _ => none
  | n + 1, σ => (q_gi (q_gf σ 12 v0 19)).bind fun x171 => (q_ob σ 12 v0).bind fun w172 => q_sq (f_Mo_signAt v0 x171 σ) fun x174 σ173 => if x174 < (97 : Int32) then (some ((), σ173)) else ((q_gi (q_gf σ173 12 v0 19)).bind fun x176 => (q_ob σ173 12 v0).bind fun w177 => q_sq (f_Mo_signAt v0 x176 σ173) fun x179 σ178 => if (122 : Int32) < x179 then (some ((), σ178)) else ((q_gi (q_gf σ178 12 v0 19)).bind fun x181 => (q_gi (q_gf σ178 12 v0 20)).bind fun x182 => if (x181 - x182) < (8 : Int32) then ((q_gl' (q_gf σ178 12 v0 22)).bind fun x184 => (q_gi (q_gf σ178 12 v0 19)).bind fun x185 => (q_ob σ178 12 v0).bind fun w186 => q_sq (f_Mo_signAt v0 x185 σ178) fun x188 σ187 => (q_sf σ187 12 v0 22 (.long (((x184 * (27 : Int64)) + x188.toInt64) - (96 : Int64)))).bind fun σ189 => (q_gi (q_gf σ189 12 v0 19)).bind fun x190 => (q_sf σ189 12 v0 19 (.int (x190 + (1 : Int32)))).bind fun σ191 => f_Mo_nextToken_L109 v0 n σ191) else ((q_gi (q_gf σ178 12 v0 19)).bind fun x192 => (q_sf σ178 12 v0 19 (.int (x192 + (1 : Int32)))).bind fun σ193 => f_Mo_nextToken_L109 v0 n σ193)))
set_option maxRecDepth 100000 in
theorem l_Mo_nextToken_L109 {fo : Option Nat} {d : Nat} (hd : 2 ≤ d + 1) {o : q_O} {σ' : q_H} {E : (Unit) → q_H → Prop} (v0 : Nat) (hX : ∀ (t : Unit) σ1, E (t) σ1 → q_G (q_rf fo) d m_Mo_nextToken o σ' 188 [some (.ref v0), none] [] σ1)  : ∀ (n : Nat) (σ : q_H), q_J E (f_Mo_nextToken_L109 v0 n σ) (q_G (q_rf fo) d m_Mo_nextToken o σ' 109 [some (.ref v0), none] [] σ)
  | 0, σ => J_none
  | n + 1, σ => by
    unfold f_Mo_nextToken_L109
    refine J_bind fun x171 hx171 => ?_
    refine J_bind fun w172 hw172 => ?_
    refine J_cl fun x174 σ173 hσ173 => ?_
    refine q_J.step (fun g => j_aload_n rfl rfl (j_aload_n rfl rfl (j_gfi rfl hx171 (j_v1 [.ref v0, .int x171] [] rfl rfl rfl rfl rfl rfl hw172 (Or.inl rfl) (t_Mo_signAt (by omega) hσ173) (j_bipush (97 : Int32) rfl kb_97 (g)))))) ?_
    refine J_ite (fun h175 => ?_) (fun h175 => ?_)
    · exact J_some (fun h => j_icmp_t rfl (cc_lt_t h175) (hX _ _ h))
    refine J_bind fun x176 hx176 => ?_
    refine J_bind fun w177 hw177 => ?_
    refine J_cl fun x179 σ178 hσ178 => ?_
    refine q_J.step (fun g => j_icmp_f rfl (cc_lt_f h175) (j_aload_n rfl rfl (j_aload_n rfl rfl (j_gfi rfl hx176 (j_v1 [.ref v0, .int x176] [] rfl rfl rfl rfl rfl rfl hw177 (Or.inl rfl) (t_Mo_signAt (by omega) hσ178) (j_bipush (122 : Int32) rfl kb_122 (g))))))) ?_
    refine J_ite (fun h180 => ?_) (fun h180 => ?_)
    · exact J_some (fun h => j_icmp_t rfl (cc_gt_t h180) (hX _ _ h))
    refine J_bind fun x181 hx181 => ?_
    refine J_bind fun x182 hx182 => ?_
    refine q_J.step (fun g => j_icmp_f rfl (cc_gt_f h180) (j_aload_n rfl rfl (j_gfi rfl hx181 (j_aload_n rfl rfl (j_gfi rfl hx182 (j_isub rfl (j_bipush (8 : Int32) rfl kb_8 (g)))))))) ?_
    refine J_ite (fun h183 => ?_) (fun h183 => ?_)
    · refine J_bind fun x184 hx184 => ?_
      refine J_bind fun x185 hx185 => ?_
      refine J_bind fun w186 hw186 => ?_
      refine J_cl fun x188 σ187 hσ187 => ?_
      refine J_bind fun σ189 hσ189 => ?_
      refine J_bind fun x190 hx190 => ?_
      refine J_bind fun σ191 hσ191 => ?_
      exact q_J.step (fun g => j_icmp_f rfl (cc_ge_f h183) (j_aload_n rfl rfl (j_aload_n rfl rfl (j_gfl rfl hx184 (j_ldc2 (27 : Int64) rfl kw_27 (j_lmul rfl (j_aload_n rfl rfl (j_aload_n rfl rfl (j_gfi rfl hx185 (j_v1 [.ref v0, .int x185] [.long (x184 * (27 : Int64)), .ref v0] rfl rfl rfl rfl rfl rfl hw186 (Or.inl rfl) (t_Mo_signAt (by omega) hσ187) (j_i2l rfl (j_ladd rfl (j_ldc2 (96 : Int64) rfl kw_96 (j_lsub rfl (j_putf rfl rfl rfl rfl hσ189 (j_aload_n rfl rfl (j_dup rfl rfl (j_gfi rfl hx190 (j_iconst (1 : Int32) rfl k32_1 (j_iadd rfl (j_putf rfl rfl rfl rfl hσ191 (j_goto rfl (g))))))))))))))))))))))) (l_Mo_nextToken_L109 hd v0 hX n σ191)
    refine J_bind fun x192 hx192 => ?_
    refine J_bind fun σ193 hσ193 => ?_
    exact q_J.step (fun g => j_icmp_t rfl (cc_ge_t h183) (j_aload_n rfl rfl (j_dup rfl rfl (j_gfi rfl hx192 (j_iconst (1 : Int32) rfl k32_1 (j_iadd rfl (j_putf rfl rfl rfl rfl hσ193 (j_goto rfl (g))))))))) (l_Mo_nextToken_L109 hd v0 hX n σ193)

def f_Mo_nextToken (v0 : Nat) (σ : q_H) : Option ((Unit) × q_H) := q_sq (f_Mo_nextToken_L0 v0 q_FU σ) fun (t16 : Unit) σ17 => (q_gi (q_gf σ17 12 v0 19)).bind fun x18 => (q_sf σ17 12 v0 20 (.int x18)).bind fun σ19 => (q_sf σ19 12 v0 22 (.long (0 : Int64))).bind fun σ20 => (q_sf σ20 12 v0 23 (.int (0 : Int32))).bind fun σ21 => (q_gi (q_gf σ21 12 v0 19)).bind fun x22 => (q_gi (q_gf σ21 12 v0 18)).bind fun x23 => if x22 = x23 then ((q_sf σ21 12 v0 21 (.int (0 : Int32))).bind fun σ25 => some ((), σ25)) else ((q_gr (q_gf σ21 12 v0 17)).bind fun x26 => (q_gi (q_gf σ21 12 v0 19)).bind fun x27 => (q_gi (q_ga σ21 20 x26 x27)).bind fun x28 => if x28 < (97 : Int32) then (if x28 < (48 : Int32) then ((q_gi (q_gf σ21 12 v0 19)).bind fun x31 => (q_sf σ21 12 v0 19 (.int (x31 + (1 : Int32)))).bind fun σ32 => if x28 < (40 : Int32) then (if x28 = (45 : Int32) then ((q_sf σ32 12 v0 21 (.int (3 : Int32))).bind fun σ35 => some ((), σ35)) else (if x28 < (59 : Int32) then ((q_sf σ32 12 v0 21 (.int (4 : Int32))).bind fun σ37 => some ((), σ37)) else (if (61 : Int32) < x28 then ((q_sf σ32 12 v0 21 (.int (4 : Int32))).bind fun σ39 => some ((), σ39)) else ((q_sf σ32 12 v0 21 (.int (3 : Int32))).bind fun σ40 => some ((), σ40))))) else (if (43 : Int32) < x28 then (if x28 = (45 : Int32) then ((q_sf σ32 12 v0 21 (.int (3 : Int32))).bind fun σ43 => some ((), σ43)) else (if x28 < (59 : Int32) then ((q_sf σ32 12 v0 21 (.int (4 : Int32))).bind fun σ45 => some ((), σ45)) else (if (61 : Int32) < x28 then ((q_sf σ32 12 v0 21 (.int (4 : Int32))).bind fun σ47 => some ((), σ47)) else ((q_sf σ32 12 v0 21 (.int (3 : Int32))).bind fun σ48 => some ((), σ48))))) else ((q_sf σ32 12 v0 21 (.int (3 : Int32))).bind fun σ49 => some ((), σ49)))) else (if (57 : Int32) < x28 then ((q_gi (q_gf σ21 12 v0 19)).bind fun x51 => (q_sf σ21 12 v0 19 (.int (x51 + (1 : Int32)))).bind fun σ52 => if x28 < (40 : Int32) then (if x28 = (45 : Int32) then ((q_sf σ52 12 v0 21 (.int (3 : Int32))).bind fun σ55 => some ((), σ55)) else (if x28 < (59 : Int32) then ((q_sf σ52 12 v0 21 (.int (4 : Int32))).bind fun σ57 => some ((), σ57)) else (if (61 : Int32) < x28 then ((q_sf σ52 12 v0 21 (.int (4 : Int32))).bind fun σ59 => some ((), σ59)) else ((q_sf σ52 12 v0 21 (.int (3 : Int32))).bind fun σ60 => some ((), σ60))))) else (if (43 : Int32) < x28 then (if x28 = (45 : Int32) then ((q_sf σ52 12 v0 21 (.int (3 : Int32))).bind fun σ63 => some ((), σ63)) else (if x28 < (59 : Int32) then ((q_sf σ52 12 v0 21 (.int (4 : Int32))).bind fun σ65 => some ((), σ65)) else (if (61 : Int32) < x28 then ((q_sf σ52 12 v0 21 (.int (4 : Int32))).bind fun σ67 => some ((), σ67)) else ((q_sf σ52 12 v0 21 (.int (3 : Int32))).bind fun σ68 => some ((), σ68))))) else ((q_sf σ52 12 v0 21 (.int (3 : Int32))).bind fun σ69 => some ((), σ69)))) else (q_sq (f_Mo_nextToken_L224 v0 q_FU σ21) fun (t93 : Unit) σ94 => (q_gi (q_gf σ94 12 v0 19)).bind fun x95 => (q_gi (q_gf σ94 12 v0 20)).bind fun x96 => if (4 : Int32) < (x95 - x96) then ((q_sf σ94 12 v0 21 (.int (4 : Int32))).bind fun σ98 => some ((), σ98)) else ((q_sf σ94 12 v0 21 (.int (2 : Int32))).bind fun σ99 => some ((), σ99))))) else (if (122 : Int32) < x28 then (if x28 < (48 : Int32) then ((q_gi (q_gf σ21 12 v0 19)).bind fun x102 => (q_sf σ21 12 v0 19 (.int (x102 + (1 : Int32)))).bind fun σ103 => if x28 < (40 : Int32) then (if x28 = (45 : Int32) then ((q_sf σ103 12 v0 21 (.int (3 : Int32))).bind fun σ106 => some ((), σ106)) else (if x28 < (59 : Int32) then ((q_sf σ103 12 v0 21 (.int (4 : Int32))).bind fun σ108 => some ((), σ108)) else (if (61 : Int32) < x28 then ((q_sf σ103 12 v0 21 (.int (4 : Int32))).bind fun σ110 => some ((), σ110)) else ((q_sf σ103 12 v0 21 (.int (3 : Int32))).bind fun σ111 => some ((), σ111))))) else (if (43 : Int32) < x28 then (if x28 = (45 : Int32) then ((q_sf σ103 12 v0 21 (.int (3 : Int32))).bind fun σ114 => some ((), σ114)) else (if x28 < (59 : Int32) then ((q_sf σ103 12 v0 21 (.int (4 : Int32))).bind fun σ116 => some ((), σ116)) else (if (61 : Int32) < x28 then ((q_sf σ103 12 v0 21 (.int (4 : Int32))).bind fun σ118 => some ((), σ118)) else ((q_sf σ103 12 v0 21 (.int (3 : Int32))).bind fun σ119 => some ((), σ119))))) else ((q_sf σ103 12 v0 21 (.int (3 : Int32))).bind fun σ120 => some ((), σ120)))) else (if (57 : Int32) < x28 then ((q_gi (q_gf σ21 12 v0 19)).bind fun x122 => (q_sf σ21 12 v0 19 (.int (x122 + (1 : Int32)))).bind fun σ123 => if x28 < (40 : Int32) then (if x28 = (45 : Int32) then ((q_sf σ123 12 v0 21 (.int (3 : Int32))).bind fun σ126 => some ((), σ126)) else (if x28 < (59 : Int32) then ((q_sf σ123 12 v0 21 (.int (4 : Int32))).bind fun σ128 => some ((), σ128)) else (if (61 : Int32) < x28 then ((q_sf σ123 12 v0 21 (.int (4 : Int32))).bind fun σ130 => some ((), σ130)) else ((q_sf σ123 12 v0 21 (.int (3 : Int32))).bind fun σ131 => some ((), σ131))))) else (if (43 : Int32) < x28 then (if x28 = (45 : Int32) then ((q_sf σ123 12 v0 21 (.int (3 : Int32))).bind fun σ134 => some ((), σ134)) else (if x28 < (59 : Int32) then ((q_sf σ123 12 v0 21 (.int (4 : Int32))).bind fun σ136 => some ((), σ136)) else (if (61 : Int32) < x28 then ((q_sf σ123 12 v0 21 (.int (4 : Int32))).bind fun σ138 => some ((), σ138)) else ((q_sf σ123 12 v0 21 (.int (3 : Int32))).bind fun σ139 => some ((), σ139))))) else ((q_sf σ123 12 v0 21 (.int (3 : Int32))).bind fun σ140 => some ((), σ140)))) else (q_sq (f_Mo_nextToken_L224 v0 q_FU σ21) fun (t164 : Unit) σ165 => (q_gi (q_gf σ165 12 v0 19)).bind fun x166 => (q_gi (q_gf σ165 12 v0 20)).bind fun x167 => if (4 : Int32) < (x166 - x167) then ((q_sf σ165 12 v0 21 (.int (4 : Int32))).bind fun σ169 => some ((), σ169)) else ((q_sf σ165 12 v0 21 (.int (2 : Int32))).bind fun σ170 => some ((), σ170))))) else (q_sq (f_Mo_nextToken_L109 v0 q_FU σ21) fun (t194 : Unit) σ195 => (q_gi (q_gf σ195 12 v0 19)).bind fun x196 => (q_gi (q_gf σ195 12 v0 20)).bind fun x197 => if (8 : Int32) < (x196 - x197) then ((q_sf σ195 12 v0 21 (.int (4 : Int32))).bind fun σ199 => some ((), σ199)) else ((q_sf σ195 12 v0 21 (.int (1 : Int32))).bind fun σ200 => some ((), σ200)))))
set_option maxRecDepth 100000 in
theorem b_Mo_nextToken {fo : Option Nat} {d : Nat} (hd : 2 ≤ d + 1) {o : q_O} {σ' : q_H} (v0 : Nat) (σ : q_H) : q_J (fun (r : Unit) (σ1 : q_H) => o = .inl none ∧ σ' = σ1) (f_Mo_nextToken v0 σ) (q_G (q_rf fo) d m_Mo_nextToken o σ' 0 [some (.ref v0), none] [] σ) := by
  unfold f_Mo_nextToken
  refine J_sq (fun (t16 : Unit) (σ17 : q_H) => q_G (q_rf fo) d m_Mo_nextToken o σ' 52 [some (.ref v0), none] [] σ17) (l_Mo_nextToken_L0 hd v0 (fun _ _ h => h) q_FU σ) (fun t16 σ17 => ?_)
  refine J_bind fun x18 hx18 => ?_
  refine J_bind fun σ19 hσ19 => ?_
  refine J_bind fun σ20 hσ20 => ?_
  refine J_bind fun σ21 hσ21 => ?_
  refine J_bind fun x22 hx22 => ?_
  refine J_bind fun x23 hx23 => ?_
  refine q_J.step (fun g => j_aload_n rfl rfl (j_aload_n rfl rfl (j_gfi rfl hx18 (j_putf rfl rfl rfl rfl hσ19 (j_aload_n rfl rfl (j_lconst (0 : Int64) rfl kl_0 (j_putf rfl rfl rfl rfl hσ20 (j_aload_n rfl rfl (j_iconst (0 : Int32) rfl k32_0 (j_putf rfl rfl rfl rfl hσ21 (j_aload_n rfl rfl (j_gfi rfl hx22 (j_aload_n rfl rfl (j_gfi rfl hx23 (g))))))))))))))) ?_
  refine J_ite (fun h24 => ?_) (fun h24 => ?_)
  · refine J_bind fun σ25 hσ25 => ?_
    exact J_some (fun h => j_icmp_f rfl (cc_ne_f h24) (j_aload_n rfl rfl (j_iconst (0 : Int32) rfl k32_0 (j_putf rfl rfl rfl rfl hσ25 (j_vret rfl rfl h)))))
  refine J_bind fun x26 hx26 => ?_
  refine J_bind fun x27 hx27 => ?_
  refine J_bind fun x28 hx28 => ?_
  refine q_J.step (fun g => j_icmp_t rfl (cc_ne_t h24) (j_aload_n rfl rfl (j_gfr rfl hx26 (j_aload_n rfl rfl (j_gfi rfl hx27 (j_ial rfl hx28 (j_istore_n [some (.ref v0), some (.int x28)] rfl rfl (Or.inr rfl) rfl (j_iload_n rfl rfl (j_bipush (97 : Int32) rfl kb_97 (g)))))))))) ?_
  refine J_ite (fun h29 => ?_) (fun h29 => ?_)
  · refine q_J.step (fun g => j_icmp_t rfl (cc_lt_t h29) (j_iload_n rfl rfl (j_bipush (48 : Int32) rfl kb_48 (g)))) ?_
    refine J_ite (fun h30 => ?_) (fun h30 => ?_)
    · refine J_bind fun x31 hx31 => ?_
      refine J_bind fun σ32 hσ32 => ?_
      refine q_J.step (fun g => j_icmp_t rfl (cc_lt_t h30) (j_aload_n rfl rfl (j_dup rfl rfl (j_gfi rfl hx31 (j_iconst (1 : Int32) rfl k32_1 (j_iadd rfl (j_putf rfl rfl rfl rfl hσ32 (j_aload_n rfl rfl (j_iload_n rfl rfl (j_bipush (40 : Int32) rfl kb_40 (g))))))))))) ?_
      refine J_ite (fun h33 => ?_) (fun h33 => ?_)
      · refine q_J.step (fun g => j_icmp_t rfl (cc_lt_t h33) (j_iload_n rfl rfl (j_bipush (45 : Int32) rfl kb_45 (g)))) ?_
        refine J_ite (fun h34 => ?_) (fun h34 => ?_)
        · refine J_bind fun σ35 hσ35 => ?_
          exact J_some (fun h => j_icmp_t rfl (cc_eq_t h34) (j_iconst (3 : Int32) rfl k32_3 (j_goto rfl (j_putf rfl rfl rfl rfl hσ35 (j_vret rfl rfl h)))))
        refine q_J.step (fun g => j_icmp_f rfl (cc_eq_f h34) (j_iload_n rfl rfl (j_bipush (59 : Int32) rfl kb_59 (g)))) ?_
        refine J_ite (fun h36 => ?_) (fun h36 => ?_)
        · refine J_bind fun σ37 hσ37 => ?_
          exact J_some (fun h => j_icmp_t rfl (cc_lt_t h36) (j_iconst (4 : Int32) rfl k32_4 (j_putf rfl rfl rfl rfl hσ37 (j_vret rfl rfl h))))
        refine q_J.step (fun g => j_icmp_f rfl (cc_lt_f h36) (j_iload_n rfl rfl (j_bipush (61 : Int32) rfl kb_61 (g)))) ?_
        refine J_ite (fun h38 => ?_) (fun h38 => ?_)
        · refine J_bind fun σ39 hσ39 => ?_
          exact J_some (fun h => j_icmp_t rfl (cc_gt_t h38) (j_iconst (4 : Int32) rfl k32_4 (j_putf rfl rfl rfl rfl hσ39 (j_vret rfl rfl h))))
        refine J_bind fun σ40 hσ40 => ?_
        exact J_some (fun h => j_icmp_f rfl (cc_gt_f h38) (j_iconst (3 : Int32) rfl k32_3 (j_goto rfl (j_putf rfl rfl rfl rfl hσ40 (j_vret rfl rfl h)))))
      refine q_J.step (fun g => j_icmp_f rfl (cc_lt_f h33) (j_iload_n rfl rfl (j_bipush (43 : Int32) rfl kb_43 (g)))) ?_
      refine J_ite (fun h41 => ?_) (fun h41 => ?_)
      · refine q_J.step (fun g => j_icmp_f rfl (cc_le_f h41) (j_iload_n rfl rfl (j_bipush (45 : Int32) rfl kb_45 (g)))) ?_
        refine J_ite (fun h42 => ?_) (fun h42 => ?_)
        · refine J_bind fun σ43 hσ43 => ?_
          exact J_some (fun h => j_icmp_t rfl (cc_eq_t h42) (j_iconst (3 : Int32) rfl k32_3 (j_goto rfl (j_putf rfl rfl rfl rfl hσ43 (j_vret rfl rfl h)))))
        refine q_J.step (fun g => j_icmp_f rfl (cc_eq_f h42) (j_iload_n rfl rfl (j_bipush (59 : Int32) rfl kb_59 (g)))) ?_
        refine J_ite (fun h44 => ?_) (fun h44 => ?_)
        · refine J_bind fun σ45 hσ45 => ?_
          exact J_some (fun h => j_icmp_t rfl (cc_lt_t h44) (j_iconst (4 : Int32) rfl k32_4 (j_putf rfl rfl rfl rfl hσ45 (j_vret rfl rfl h))))
        refine q_J.step (fun g => j_icmp_f rfl (cc_lt_f h44) (j_iload_n rfl rfl (j_bipush (61 : Int32) rfl kb_61 (g)))) ?_
        refine J_ite (fun h46 => ?_) (fun h46 => ?_)
        · refine J_bind fun σ47 hσ47 => ?_
          exact J_some (fun h => j_icmp_t rfl (cc_gt_t h46) (j_iconst (4 : Int32) rfl k32_4 (j_putf rfl rfl rfl rfl hσ47 (j_vret rfl rfl h))))
        refine J_bind fun σ48 hσ48 => ?_
        exact J_some (fun h => j_icmp_f rfl (cc_gt_f h46) (j_iconst (3 : Int32) rfl k32_3 (j_goto rfl (j_putf rfl rfl rfl rfl hσ48 (j_vret rfl rfl h)))))
      refine J_bind fun σ49 hσ49 => ?_
      exact J_some (fun h => j_icmp_t rfl (cc_le_t h41) (j_iconst (3 : Int32) rfl k32_3 (j_goto rfl (j_putf rfl rfl rfl rfl hσ49 (j_vret rfl rfl h)))))
    refine q_J.step (fun g => j_icmp_f rfl (cc_lt_f h30) (j_iload_n rfl rfl (j_bipush (57 : Int32) rfl kb_57 (g)))) ?_
    refine J_ite (fun h50 => ?_) (fun h50 => ?_)
    · refine J_bind fun x51 hx51 => ?_
      refine J_bind fun σ52 hσ52 => ?_
      refine q_J.step (fun g => j_icmp_t rfl (cc_gt_t h50) (j_aload_n rfl rfl (j_dup rfl rfl (j_gfi rfl hx51 (j_iconst (1 : Int32) rfl k32_1 (j_iadd rfl (j_putf rfl rfl rfl rfl hσ52 (j_aload_n rfl rfl (j_iload_n rfl rfl (j_bipush (40 : Int32) rfl kb_40 (g))))))))))) ?_
      refine J_ite (fun h53 => ?_) (fun h53 => ?_)
      · refine q_J.step (fun g => j_icmp_t rfl (cc_lt_t h53) (j_iload_n rfl rfl (j_bipush (45 : Int32) rfl kb_45 (g)))) ?_
        refine J_ite (fun h54 => ?_) (fun h54 => ?_)
        · refine J_bind fun σ55 hσ55 => ?_
          exact J_some (fun h => j_icmp_t rfl (cc_eq_t h54) (j_iconst (3 : Int32) rfl k32_3 (j_goto rfl (j_putf rfl rfl rfl rfl hσ55 (j_vret rfl rfl h)))))
        refine q_J.step (fun g => j_icmp_f rfl (cc_eq_f h54) (j_iload_n rfl rfl (j_bipush (59 : Int32) rfl kb_59 (g)))) ?_
        refine J_ite (fun h56 => ?_) (fun h56 => ?_)
        · refine J_bind fun σ57 hσ57 => ?_
          exact J_some (fun h => j_icmp_t rfl (cc_lt_t h56) (j_iconst (4 : Int32) rfl k32_4 (j_putf rfl rfl rfl rfl hσ57 (j_vret rfl rfl h))))
        refine q_J.step (fun g => j_icmp_f rfl (cc_lt_f h56) (j_iload_n rfl rfl (j_bipush (61 : Int32) rfl kb_61 (g)))) ?_
        refine J_ite (fun h58 => ?_) (fun h58 => ?_)
        · refine J_bind fun σ59 hσ59 => ?_
          exact J_some (fun h => j_icmp_t rfl (cc_gt_t h58) (j_iconst (4 : Int32) rfl k32_4 (j_putf rfl rfl rfl rfl hσ59 (j_vret rfl rfl h))))
        refine J_bind fun σ60 hσ60 => ?_
        exact J_some (fun h => j_icmp_f rfl (cc_gt_f h58) (j_iconst (3 : Int32) rfl k32_3 (j_goto rfl (j_putf rfl rfl rfl rfl hσ60 (j_vret rfl rfl h)))))
      refine q_J.step (fun g => j_icmp_f rfl (cc_lt_f h53) (j_iload_n rfl rfl (j_bipush (43 : Int32) rfl kb_43 (g)))) ?_
      refine J_ite (fun h61 => ?_) (fun h61 => ?_)
      · refine q_J.step (fun g => j_icmp_f rfl (cc_le_f h61) (j_iload_n rfl rfl (j_bipush (45 : Int32) rfl kb_45 (g)))) ?_
        refine J_ite (fun h62 => ?_) (fun h62 => ?_)
        · refine J_bind fun σ63 hσ63 => ?_
          exact J_some (fun h => j_icmp_t rfl (cc_eq_t h62) (j_iconst (3 : Int32) rfl k32_3 (j_goto rfl (j_putf rfl rfl rfl rfl hσ63 (j_vret rfl rfl h)))))
        refine q_J.step (fun g => j_icmp_f rfl (cc_eq_f h62) (j_iload_n rfl rfl (j_bipush (59 : Int32) rfl kb_59 (g)))) ?_
        refine J_ite (fun h64 => ?_) (fun h64 => ?_)
        · refine J_bind fun σ65 hσ65 => ?_
          exact J_some (fun h => j_icmp_t rfl (cc_lt_t h64) (j_iconst (4 : Int32) rfl k32_4 (j_putf rfl rfl rfl rfl hσ65 (j_vret rfl rfl h))))
        refine q_J.step (fun g => j_icmp_f rfl (cc_lt_f h64) (j_iload_n rfl rfl (j_bipush (61 : Int32) rfl kb_61 (g)))) ?_
        refine J_ite (fun h66 => ?_) (fun h66 => ?_)
        · refine J_bind fun σ67 hσ67 => ?_
          exact J_some (fun h => j_icmp_t rfl (cc_gt_t h66) (j_iconst (4 : Int32) rfl k32_4 (j_putf rfl rfl rfl rfl hσ67 (j_vret rfl rfl h))))
        refine J_bind fun σ68 hσ68 => ?_
        exact J_some (fun h => j_icmp_f rfl (cc_gt_f h66) (j_iconst (3 : Int32) rfl k32_3 (j_goto rfl (j_putf rfl rfl rfl rfl hσ68 (j_vret rfl rfl h)))))
      refine J_bind fun σ69 hσ69 => ?_
      exact J_some (fun h => j_icmp_t rfl (cc_le_t h61) (j_iconst (3 : Int32) rfl k32_3 (j_goto rfl (j_putf rfl rfl rfl rfl hσ69 (j_vret rfl rfl h)))))
    refine J_sq (fun (t93 : Unit) (σ94 : q_H) => q_G (q_rf fo) d m_Mo_nextToken o σ' 299 [some (.ref v0), none] [] σ94) (q_J.step (fun g => j_icmp_f rfl (cc_gt_f h50) (j_weak (l := [some (.ref v0), none]) (And.intro (Or.inr rfl) (And.intro (Or.inl rfl) True.intro)) (g))) (l_Mo_nextToken_L224 hd v0 (fun _ _ h => h) q_FU σ21)) (fun t93 σ94 => ?_)
    refine J_bind fun x95 hx95 => ?_
    refine J_bind fun x96 hx96 => ?_
    refine q_J.step (fun g => j_aload_n rfl rfl (j_aload_n rfl rfl (j_gfi rfl hx95 (j_aload_n rfl rfl (j_gfi rfl hx96 (j_isub rfl (j_iconst (4 : Int32) rfl k32_4 (g)))))))) ?_
    refine J_ite (fun h97 => ?_) (fun h97 => ?_)
    · refine J_bind fun σ98 hσ98 => ?_
      exact J_some (fun h => j_icmp_f rfl (cc_le_f h97) (j_iconst (4 : Int32) rfl k32_4 (j_goto rfl (j_putf rfl rfl rfl rfl hσ98 (j_vret rfl rfl h)))))
    refine J_bind fun σ99 hσ99 => ?_
    exact J_some (fun h => j_icmp_t rfl (cc_le_t h97) (j_iconst (2 : Int32) rfl k32_2 (j_putf rfl rfl rfl rfl hσ99 (j_vret rfl rfl h))))
  refine q_J.step (fun g => j_icmp_f rfl (cc_lt_f h29) (j_iload_n rfl rfl (j_bipush (122 : Int32) rfl kb_122 (g)))) ?_
  refine J_ite (fun h100 => ?_) (fun h100 => ?_)
  · refine q_J.step (fun g => j_icmp_t rfl (cc_gt_t h100) (j_iload_n rfl rfl (j_bipush (48 : Int32) rfl kb_48 (g)))) ?_
    refine J_ite (fun h101 => ?_) (fun h101 => ?_)
    · refine J_bind fun x102 hx102 => ?_
      refine J_bind fun σ103 hσ103 => ?_
      refine q_J.step (fun g => j_icmp_t rfl (cc_lt_t h101) (j_aload_n rfl rfl (j_dup rfl rfl (j_gfi rfl hx102 (j_iconst (1 : Int32) rfl k32_1 (j_iadd rfl (j_putf rfl rfl rfl rfl hσ103 (j_aload_n rfl rfl (j_iload_n rfl rfl (j_bipush (40 : Int32) rfl kb_40 (g))))))))))) ?_
      refine J_ite (fun h104 => ?_) (fun h104 => ?_)
      · refine q_J.step (fun g => j_icmp_t rfl (cc_lt_t h104) (j_iload_n rfl rfl (j_bipush (45 : Int32) rfl kb_45 (g)))) ?_
        refine J_ite (fun h105 => ?_) (fun h105 => ?_)
        · refine J_bind fun σ106 hσ106 => ?_
          exact J_some (fun h => j_icmp_t rfl (cc_eq_t h105) (j_iconst (3 : Int32) rfl k32_3 (j_goto rfl (j_putf rfl rfl rfl rfl hσ106 (j_vret rfl rfl h)))))
        refine q_J.step (fun g => j_icmp_f rfl (cc_eq_f h105) (j_iload_n rfl rfl (j_bipush (59 : Int32) rfl kb_59 (g)))) ?_
        refine J_ite (fun h107 => ?_) (fun h107 => ?_)
        · refine J_bind fun σ108 hσ108 => ?_
          exact J_some (fun h => j_icmp_t rfl (cc_lt_t h107) (j_iconst (4 : Int32) rfl k32_4 (j_putf rfl rfl rfl rfl hσ108 (j_vret rfl rfl h))))
        refine q_J.step (fun g => j_icmp_f rfl (cc_lt_f h107) (j_iload_n rfl rfl (j_bipush (61 : Int32) rfl kb_61 (g)))) ?_
        refine J_ite (fun h109 => ?_) (fun h109 => ?_)
        · refine J_bind fun σ110 hσ110 => ?_
          exact J_some (fun h => j_icmp_t rfl (cc_gt_t h109) (j_iconst (4 : Int32) rfl k32_4 (j_putf rfl rfl rfl rfl hσ110 (j_vret rfl rfl h))))
        refine J_bind fun σ111 hσ111 => ?_
        exact J_some (fun h => j_icmp_f rfl (cc_gt_f h109) (j_iconst (3 : Int32) rfl k32_3 (j_goto rfl (j_putf rfl rfl rfl rfl hσ111 (j_vret rfl rfl h)))))
      refine q_J.step (fun g => j_icmp_f rfl (cc_lt_f h104) (j_iload_n rfl rfl (j_bipush (43 : Int32) rfl kb_43 (g)))) ?_
      refine J_ite (fun h112 => ?_) (fun h112 => ?_)
      · refine q_J.step (fun g => j_icmp_f rfl (cc_le_f h112) (j_iload_n rfl rfl (j_bipush (45 : Int32) rfl kb_45 (g)))) ?_
        refine J_ite (fun h113 => ?_) (fun h113 => ?_)
        · refine J_bind fun σ114 hσ114 => ?_
          exact J_some (fun h => j_icmp_t rfl (cc_eq_t h113) (j_iconst (3 : Int32) rfl k32_3 (j_goto rfl (j_putf rfl rfl rfl rfl hσ114 (j_vret rfl rfl h)))))
        refine q_J.step (fun g => j_icmp_f rfl (cc_eq_f h113) (j_iload_n rfl rfl (j_bipush (59 : Int32) rfl kb_59 (g)))) ?_
        refine J_ite (fun h115 => ?_) (fun h115 => ?_)
        · refine J_bind fun σ116 hσ116 => ?_
          exact J_some (fun h => j_icmp_t rfl (cc_lt_t h115) (j_iconst (4 : Int32) rfl k32_4 (j_putf rfl rfl rfl rfl hσ116 (j_vret rfl rfl h))))
        refine q_J.step (fun g => j_icmp_f rfl (cc_lt_f h115) (j_iload_n rfl rfl (j_bipush (61 : Int32) rfl kb_61 (g)))) ?_
        refine J_ite (fun h117 => ?_) (fun h117 => ?_)
        · refine J_bind fun σ118 hσ118 => ?_
          exact J_some (fun h => j_icmp_t rfl (cc_gt_t h117) (j_iconst (4 : Int32) rfl k32_4 (j_putf rfl rfl rfl rfl hσ118 (j_vret rfl rfl h))))
        refine J_bind fun σ119 hσ119 => ?_
        exact J_some (fun h => j_icmp_f rfl (cc_gt_f h117) (j_iconst (3 : Int32) rfl k32_3 (j_goto rfl (j_putf rfl rfl rfl rfl hσ119 (j_vret rfl rfl h)))))
      refine J_bind fun σ120 hσ120 => ?_
      exact J_some (fun h => j_icmp_t rfl (cc_le_t h112) (j_iconst (3 : Int32) rfl k32_3 (j_goto rfl (j_putf rfl rfl rfl rfl hσ120 (j_vret rfl rfl h)))))
    refine q_J.step (fun g => j_icmp_f rfl (cc_lt_f h101) (j_iload_n rfl rfl (j_bipush (57 : Int32) rfl kb_57 (g)))) ?_
    refine J_ite (fun h121 => ?_) (fun h121 => ?_)
    · refine J_bind fun x122 hx122 => ?_
      refine J_bind fun σ123 hσ123 => ?_
      refine q_J.step (fun g => j_icmp_t rfl (cc_gt_t h121) (j_aload_n rfl rfl (j_dup rfl rfl (j_gfi rfl hx122 (j_iconst (1 : Int32) rfl k32_1 (j_iadd rfl (j_putf rfl rfl rfl rfl hσ123 (j_aload_n rfl rfl (j_iload_n rfl rfl (j_bipush (40 : Int32) rfl kb_40 (g))))))))))) ?_
      refine J_ite (fun h124 => ?_) (fun h124 => ?_)
      · refine q_J.step (fun g => j_icmp_t rfl (cc_lt_t h124) (j_iload_n rfl rfl (j_bipush (45 : Int32) rfl kb_45 (g)))) ?_
        refine J_ite (fun h125 => ?_) (fun h125 => ?_)
        · refine J_bind fun σ126 hσ126 => ?_
          exact J_some (fun h => j_icmp_t rfl (cc_eq_t h125) (j_iconst (3 : Int32) rfl k32_3 (j_goto rfl (j_putf rfl rfl rfl rfl hσ126 (j_vret rfl rfl h)))))
        refine q_J.step (fun g => j_icmp_f rfl (cc_eq_f h125) (j_iload_n rfl rfl (j_bipush (59 : Int32) rfl kb_59 (g)))) ?_
        refine J_ite (fun h127 => ?_) (fun h127 => ?_)
        · refine J_bind fun σ128 hσ128 => ?_
          exact J_some (fun h => j_icmp_t rfl (cc_lt_t h127) (j_iconst (4 : Int32) rfl k32_4 (j_putf rfl rfl rfl rfl hσ128 (j_vret rfl rfl h))))
        refine q_J.step (fun g => j_icmp_f rfl (cc_lt_f h127) (j_iload_n rfl rfl (j_bipush (61 : Int32) rfl kb_61 (g)))) ?_
        refine J_ite (fun h129 => ?_) (fun h129 => ?_)
        · refine J_bind fun σ130 hσ130 => ?_
          exact J_some (fun h => j_icmp_t rfl (cc_gt_t h129) (j_iconst (4 : Int32) rfl k32_4 (j_putf rfl rfl rfl rfl hσ130 (j_vret rfl rfl h))))
        refine J_bind fun σ131 hσ131 => ?_
        exact J_some (fun h => j_icmp_f rfl (cc_gt_f h129) (j_iconst (3 : Int32) rfl k32_3 (j_goto rfl (j_putf rfl rfl rfl rfl hσ131 (j_vret rfl rfl h)))))
      refine q_J.step (fun g => j_icmp_f rfl (cc_lt_f h124) (j_iload_n rfl rfl (j_bipush (43 : Int32) rfl kb_43 (g)))) ?_
      refine J_ite (fun h132 => ?_) (fun h132 => ?_)
      · refine q_J.step (fun g => j_icmp_f rfl (cc_le_f h132) (j_iload_n rfl rfl (j_bipush (45 : Int32) rfl kb_45 (g)))) ?_
        refine J_ite (fun h133 => ?_) (fun h133 => ?_)
        · refine J_bind fun σ134 hσ134 => ?_
          exact J_some (fun h => j_icmp_t rfl (cc_eq_t h133) (j_iconst (3 : Int32) rfl k32_3 (j_goto rfl (j_putf rfl rfl rfl rfl hσ134 (j_vret rfl rfl h)))))
        refine q_J.step (fun g => j_icmp_f rfl (cc_eq_f h133) (j_iload_n rfl rfl (j_bipush (59 : Int32) rfl kb_59 (g)))) ?_
        refine J_ite (fun h135 => ?_) (fun h135 => ?_)
        · refine J_bind fun σ136 hσ136 => ?_
          exact J_some (fun h => j_icmp_t rfl (cc_lt_t h135) (j_iconst (4 : Int32) rfl k32_4 (j_putf rfl rfl rfl rfl hσ136 (j_vret rfl rfl h))))
        refine q_J.step (fun g => j_icmp_f rfl (cc_lt_f h135) (j_iload_n rfl rfl (j_bipush (61 : Int32) rfl kb_61 (g)))) ?_
        refine J_ite (fun h137 => ?_) (fun h137 => ?_)
        · refine J_bind fun σ138 hσ138 => ?_
          exact J_some (fun h => j_icmp_t rfl (cc_gt_t h137) (j_iconst (4 : Int32) rfl k32_4 (j_putf rfl rfl rfl rfl hσ138 (j_vret rfl rfl h))))
        refine J_bind fun σ139 hσ139 => ?_
        exact J_some (fun h => j_icmp_f rfl (cc_gt_f h137) (j_iconst (3 : Int32) rfl k32_3 (j_goto rfl (j_putf rfl rfl rfl rfl hσ139 (j_vret rfl rfl h)))))
      refine J_bind fun σ140 hσ140 => ?_
      exact J_some (fun h => j_icmp_t rfl (cc_le_t h132) (j_iconst (3 : Int32) rfl k32_3 (j_goto rfl (j_putf rfl rfl rfl rfl hσ140 (j_vret rfl rfl h)))))
    refine J_sq (fun (t164 : Unit) (σ165 : q_H) => q_G (q_rf fo) d m_Mo_nextToken o σ' 299 [some (.ref v0), none] [] σ165) (q_J.step (fun g => j_icmp_f rfl (cc_gt_f h121) (j_weak (l := [some (.ref v0), none]) (And.intro (Or.inr rfl) (And.intro (Or.inl rfl) True.intro)) (g))) (l_Mo_nextToken_L224 hd v0 (fun _ _ h => h) q_FU σ21)) (fun t164 σ165 => ?_)
    refine J_bind fun x166 hx166 => ?_
    refine J_bind fun x167 hx167 => ?_
    refine q_J.step (fun g => j_aload_n rfl rfl (j_aload_n rfl rfl (j_gfi rfl hx166 (j_aload_n rfl rfl (j_gfi rfl hx167 (j_isub rfl (j_iconst (4 : Int32) rfl k32_4 (g)))))))) ?_
    refine J_ite (fun h168 => ?_) (fun h168 => ?_)
    · refine J_bind fun σ169 hσ169 => ?_
      exact J_some (fun h => j_icmp_f rfl (cc_le_f h168) (j_iconst (4 : Int32) rfl k32_4 (j_goto rfl (j_putf rfl rfl rfl rfl hσ169 (j_vret rfl rfl h)))))
    refine J_bind fun σ170 hσ170 => ?_
    exact J_some (fun h => j_icmp_t rfl (cc_le_t h168) (j_iconst (2 : Int32) rfl k32_2 (j_putf rfl rfl rfl rfl hσ170 (j_vret rfl rfl h))))
  refine J_sq (fun (t194 : Unit) (σ195 : q_H) => q_G (q_rf fo) d m_Mo_nextToken o σ' 188 [some (.ref v0), none] [] σ195) (q_J.step (fun g => j_icmp_f rfl (cc_gt_f h100) (j_weak (l := [some (.ref v0), none]) (And.intro (Or.inr rfl) (And.intro (Or.inl rfl) True.intro)) (g))) (l_Mo_nextToken_L109 hd v0 (fun _ _ h => h) q_FU σ21)) (fun t194 σ195 => ?_)
  refine J_bind fun x196 hx196 => ?_
  refine J_bind fun x197 hx197 => ?_
  refine q_J.step (fun g => j_aload_n rfl rfl (j_aload_n rfl rfl (j_gfi rfl hx196 (j_aload_n rfl rfl (j_gfi rfl hx197 (j_isub rfl (j_bipush (8 : Int32) rfl kb_8 (g)))))))) ?_
  refine J_ite (fun h198 => ?_) (fun h198 => ?_)
  · refine J_bind fun σ199 hσ199 => ?_
    exact J_some (fun h => j_icmp_f rfl (cc_le_f h198) (j_iconst (4 : Int32) rfl k32_4 (j_goto rfl (j_putf rfl rfl rfl rfl hσ199 (j_vret rfl rfl h)))))
  refine J_bind fun σ200 hσ200 => ?_
  exact J_some (fun h => j_icmp_t rfl (cc_le_t h198) (j_iconst (1 : Int32) rfl k32_1 (j_putf rfl rfl rfl rfl hσ200 (j_vret rfl rfl h))))
theorem t_Mo_nextToken {fo : Option Nat} {d : Nat} (hd : 2 ≤ d) {v0 : Nat} {σ σ1 : q_H} {r : Unit} (h : f_Mo_nextToken v0 σ = some (r, σ1)) : q_Rel (q_rf fo) q_Ms d 185 [.ref v0] σ (.inl none) σ1 := by
  obtain ⟨d, rfl⟩ : ∃ d1, d = d1 + 1 := ⟨d - 1, by omega⟩
  exact q_Rel.of rfl rfl (b_Mo_nextToken hd _ σ _ _ h ⟨rfl, rfl⟩)

def f_Mo_isName (v0 : Nat) (σ : q_H) : Option ((Int32) × q_H) := (q_gi (q_gf σ 12 v0 21)).bind fun x1 => if x1 = (1 : Int32) then ((q_ob σ 12 v0).bind fun w3 => q_sq (f_Mo_tag v0 σ) fun x5 σ4 => if x5 = (0 : Int32) then ((q_gl' (q_gf σ4 12 v0 22)).bind fun x7 => if x7 = (9518 : Int64) then (some ((0 : Int32), σ4)) else ((q_gl' (q_gf σ4 12 v0 22)).bind fun x9 => if x9 = (12527906 : Int64) then (some ((0 : Int32), σ4)) else (some ((1 : Int32), σ4)))) else (some ((0 : Int32), σ4))) else (some ((0 : Int32), σ))
set_option maxRecDepth 100000 in
theorem b_Mo_isName {fo : Option Nat} {d : Nat} (hd : 2 ≤ d + 1) {o : q_O} {σ' : q_H} (v0 : Nat) (σ : q_H) : q_J (fun (r : Int32) (σ1 : q_H) => o = .inl (some (.int r)) ∧ σ' = σ1) (f_Mo_isName v0 σ) (q_G (q_rf fo) d m_Mo_isName o σ' 0 [some (.ref v0)] [] σ) := by
  unfold f_Mo_isName
  refine J_bind fun x1 hx1 => ?_
  refine q_J.step (fun g => j_aload_n rfl rfl (j_gfi rfl hx1 (j_iconst (1 : Int32) rfl k32_1 (g)))) ?_
  refine J_ite (fun h2 => ?_) (fun h2 => ?_)
  · refine J_bind fun w3 hw3 => ?_
    refine J_cl fun x5 σ4 hσ4 => ?_
    refine q_J.step (fun g => j_icmp_f rfl (cc_ne_f h2) (j_aload_n rfl rfl (j_v1 [.ref v0] [] rfl rfl rfl rfl rfl rfl hw3 (Or.inl rfl) (t_Mo_tag (by omega) hσ4) (g)))) ?_
    refine J_ite (fun h6 => ?_) (fun h6 => ?_)
    · refine J_bind fun x7 hx7 => ?_
      refine q_J.step (fun g => j_if_f rfl (cc_ne_f h6) (j_aload_n rfl rfl (j_gfl rfl hx7 (j_ldc2 (9518 : Int64) rfl kw_9518 (j_lcmp rfl (g)))))) ?_
      refine J_ite (fun h8 => ?_) (fun h8 => ?_)
      · exact J_some (fun h => j_if_t rfl (lc_eq_t h8) (j_iconst (0 : Int32) rfl k32_0 (j_iret rfl (q_zr (Or.inl rfl)) h)))
      refine J_bind fun x9 hx9 => ?_
      refine q_J.step (fun g => j_if_f rfl (lc_eq_f h8) (j_aload_n rfl rfl (j_gfl rfl hx9 (j_ldc2 (12527906 : Int64) rfl kw_12527906 (j_lcmp rfl (g)))))) ?_
      refine J_ite (fun h10 => ?_) (fun h10 => ?_)
      · exact J_some (fun h => j_if_t rfl (lc_eq_t h10) (j_iconst (0 : Int32) rfl k32_0 (j_iret rfl (q_zr (Or.inl rfl)) h)))
      exact J_some (fun h => j_if_f rfl (lc_eq_f h10) (j_iconst (1 : Int32) rfl k32_1 (j_goto rfl (j_iret rfl (q_zr (Or.inr rfl)) h))))
    exact J_some (fun h => j_if_t rfl (cc_ne_t h6) (j_iconst (0 : Int32) rfl k32_0 (j_iret rfl (q_zr (Or.inl rfl)) h)))
  exact J_some (fun h => j_icmp_t rfl (cc_ne_t h2) (j_iconst (0 : Int32) rfl k32_0 (j_iret rfl (q_zr (Or.inl rfl)) h)))
theorem t_Mo_isName {fo : Option Nat} {d : Nat} (hd : 2 ≤ d) {v0 : Nat} {σ σ1 : q_H} {r : Int32} (h : f_Mo_isName v0 σ = some (r, σ1)) : q_Rel (q_rf fo) q_Ms d 190 [.ref v0] σ (.inl (some (.int r))) σ1 := by
  obtain ⟨d, rfl⟩ : ∃ d1, d = d1 + 1 := ⟨d - 1, by omega⟩
  exact q_Rel.of rfl rfl (b_Mo_isName hd _ σ _ _ h ⟨rfl, rfl⟩)

def f_Mo_sortOf (v0 : Nat) (v1 : Int32) (v2 : Int32) (σ : q_H) : Option ((Int32) × q_H) := (q_ob σ 12 v0).bind fun w1 => q_sq (f_Mo_husband v0 v1 v2 σ) fun x3 σ2 => (q_ob σ2 12 v0).bind fun w4 => q_sq (f_Mo_kinOf v0 (((12 : Int32) * v1) + v2) x3 σ2) fun x6 σ5 => if (0 : Int32) < x6 then (some (((2 : Int32) - x6), σ5)) else ((q_gr (q_gf σ5 12 v0 11)).bind fun x8 => (q_gi (q_ga σ5 20 x8 (((12 : Int32) * v1) + v2))).bind fun x9 => (q_gr (q_gf σ5 12 v0 10)).bind fun x10 => (q_gi (q_ga σ5 20 x10 (((12 : Int32) * v1) + v2))).bind fun x11 => if x9 = x11 then ((q_gr (q_gf σ5 12 v0 12)).bind fun x13 => (q_gi (q_ga σ5 20 x13 (((12 : Int32) * v1) + v2))).bind fun x14 => if (x14 &&& (1 : Int32)) = (1 : Int32) then (some ((3 : Int32), σ5)) else (some ((2 : Int32), σ5))) else (some ((4 : Int32), σ5)))
set_option maxRecDepth 100000 in
theorem b_Mo_sortOf {fo : Option Nat} {d : Nat} (hd : 2 ≤ d + 1) {o : q_O} {σ' : q_H} (v0 : Nat) (v1 : Int32) (v2 : Int32) (σ : q_H) : q_J (fun (r : Int32) (σ1 : q_H) => o = .inl (some (.int r)) ∧ σ' = σ1) (f_Mo_sortOf v0 v1 v2 σ) (q_G (q_rf fo) d m_Mo_sortOf o σ' 0 [some (.ref v0), some (.int v1), some (.int v2), none] [] σ) := by
  unfold f_Mo_sortOf
  refine J_bind fun w1 hw1 => ?_
  refine J_cl fun x3 σ2 hσ2 => ?_
  refine J_bind fun w4 hw4 => ?_
  refine J_cl fun x6 σ5 hσ5 => ?_
  refine q_J.step (fun g => j_aload_n rfl rfl (j_bipush (12 : Int32) rfl kb_12 (j_iload_n rfl rfl (j_imul rfl (j_iload_n rfl rfl (j_iadd rfl (j_aload_n rfl rfl (j_iload_n rfl rfl (j_iload_n rfl rfl (j_v1 [.ref v0, .int v1, .int v2] [.int (((12 : Int32) * v1) + v2), .ref v0] rfl rfl rfl rfl rfl rfl hw1 (Or.inl rfl) (t_Mo_husband (by omega) hσ2) (j_v1 [.ref v0, .int (((12 : Int32) * v1) + v2), .int x3] [] rfl rfl rfl rfl rfl rfl hw4 (Or.inl rfl) (t_Mo_kinOf (by omega) hσ5) (j_istore_n [some (.ref v0), some (.int v1), some (.int v2), some (.int x6)] rfl rfl (Or.inr rfl) rfl (j_iload_n rfl rfl (g)))))))))))))) ?_
  refine J_ite (fun h7 => ?_) (fun h7 => ?_)
  · exact J_some (fun h => j_if_f rfl (cc_le_f h7) (j_iconst (2 : Int32) rfl k32_2 (j_iload_n rfl rfl (j_isub rfl (j_iret rfl rfl h)))))
  refine J_bind fun x8 hx8 => ?_
  refine J_bind fun x9 hx9 => ?_
  refine J_bind fun x10 hx10 => ?_
  refine J_bind fun x11 hx11 => ?_
  refine q_J.step (fun g => j_if_t rfl (cc_le_t h7) (j_aload_n rfl rfl (j_gfr rfl hx8 (j_bipush (12 : Int32) rfl kb_12 (j_iload_n rfl rfl (j_imul rfl (j_iload_n rfl rfl (j_iadd rfl (j_ial rfl hx9 (j_aload_n rfl rfl (j_gfr rfl hx10 (j_bipush (12 : Int32) rfl kb_12 (j_iload_n rfl rfl (j_imul rfl (g))))))))))))))) ?_
  refine q_J.step (fun g => j_iload_n rfl rfl (j_iadd rfl (j_ial rfl hx11 (g)))) ?_
  refine J_ite (fun h12 => ?_) (fun h12 => ?_)
  · refine J_bind fun x13 hx13 => ?_
    refine J_bind fun x14 hx14 => ?_
    refine q_J.step (fun g => j_icmp_t rfl (cc_eq_t h12) (j_aload_n rfl rfl (j_gfr rfl hx13 (j_bipush (12 : Int32) rfl kb_12 (j_iload_n rfl rfl (j_imul rfl (j_iload_n rfl rfl (j_iadd rfl (j_ial rfl hx14 (j_iconst (1 : Int32) rfl k32_1 (j_iand rfl (j_iconst (1 : Int32) rfl k32_1 (g))))))))))))) ?_
    refine J_ite (fun h15 => ?_) (fun h15 => ?_)
    · exact J_some (fun h => j_icmp_f rfl (cc_ne_f h15) (j_iconst (3 : Int32) rfl k32_3 (j_goto rfl (j_iret rfl rfl h))))
    exact J_some (fun h => j_icmp_t rfl (cc_ne_t h15) (j_iconst (2 : Int32) rfl k32_2 (j_iret rfl rfl h)))
  exact J_some (fun h => j_icmp_f rfl (cc_eq_f h12) (j_iconst (4 : Int32) rfl k32_4 (j_iret rfl rfl h)))
theorem t_Mo_sortOf {fo : Option Nat} {d : Nat} (hd : 2 ≤ d) {v0 : Nat} {v1 : Int32} {v2 : Int32} {σ σ1 : q_H} {r : Int32} (h : f_Mo_sortOf v0 v1 v2 σ = some (r, σ1)) : q_Rel (q_rf fo) q_Ms d 201 [.ref v0, .int v1, .int v2] σ (.inl (some (.int r))) σ1 := by
  obtain ⟨d, rfl⟩ : ∃ d1, d = d1 + 1 := ⟨d - 1, by omega⟩
  exact q_Rel.of rfl rfl (b_Mo_sortOf hd _ _ _ σ _ _ h ⟨rfl, rfl⟩)

def f_Mo_isScope (v0 : Nat) (v1 : Int32) (v2 : Int32) (σ : q_H) : Option ((Int32) × q_H) := if v1 = (0 : Int32) then (some ((1 : Int32), σ)) else (if v1 = (1 : Int32) then (q_sq (f_Mo_within v2 (0 : Int32) (5 : Int32) σ) fun x4 σ3 => if x4 = (0 : Int32) then (if v1 = (2 : Int32) then (q_sq (f_Mo_within v2 (0 : Int32) (7 : Int32) σ3) fun x8 σ7 => if x8 = (0 : Int32) then (if v1 = (3 : Int32) then (q_sq (f_Mo_within v2 (0 : Int32) (1 : Int32) σ7) fun x12 σ11 => if x12 = (0 : Int32) then (some ((0 : Int32), σ11)) else (some ((1 : Int32), σ11))) else (some ((0 : Int32), σ7))) else (some ((1 : Int32), σ7))) else (if v1 = (3 : Int32) then (q_sq (f_Mo_within v2 (0 : Int32) (1 : Int32) σ3) fun x16 σ15 => if x16 = (0 : Int32) then (some ((0 : Int32), σ15)) else (some ((1 : Int32), σ15))) else (some ((0 : Int32), σ3)))) else (some ((1 : Int32), σ3))) else (if v1 = (2 : Int32) then (q_sq (f_Mo_within v2 (0 : Int32) (7 : Int32) σ) fun x20 σ19 => if x20 = (0 : Int32) then (if v1 = (3 : Int32) then (q_sq (f_Mo_within v2 (0 : Int32) (1 : Int32) σ19) fun x24 σ23 => if x24 = (0 : Int32) then (some ((0 : Int32), σ23)) else (some ((1 : Int32), σ23))) else (some ((0 : Int32), σ19))) else (some ((1 : Int32), σ19))) else (if v1 = (3 : Int32) then (q_sq (f_Mo_within v2 (0 : Int32) (1 : Int32) σ) fun x28 σ27 => if x28 = (0 : Int32) then (some ((0 : Int32), σ27)) else (some ((1 : Int32), σ27))) else (some ((0 : Int32), σ)))))
set_option maxRecDepth 100000 in
theorem b_Mo_isScope {fo : Option Nat} {d : Nat} (hd : 2 ≤ d + 1) {o : q_O} {σ' : q_H} (v0 : Nat) (v1 : Int32) (v2 : Int32) (σ : q_H) : q_J (fun (r : Int32) (σ1 : q_H) => o = .inl (some (.int r)) ∧ σ' = σ1) (f_Mo_isScope v0 v1 v2 σ) (q_G (q_rf fo) d m_Mo_isScope o σ' 0 [some (.ref v0), some (.int v1), some (.int v2)] [] σ) := by
  unfold f_Mo_isScope
  refine q_J.step (fun g => j_iload_n rfl rfl (g)) ?_
  refine J_ite (fun h1 => ?_) (fun h1 => ?_)
  · exact J_some (fun h => j_if_t rfl (cc_eq_t h1) (j_iconst (1 : Int32) rfl k32_1 (j_goto rfl (j_iret rfl (q_zr (Or.inr rfl)) h))))
  refine q_J.step (fun g => j_if_f rfl (cc_eq_f h1) (j_iload_n rfl rfl (j_iconst (1 : Int32) rfl k32_1 (g)))) ?_
  refine J_ite (fun h2 => ?_) (fun h2 => ?_)
  · refine J_cl fun x4 σ3 hσ3 => ?_
    refine q_J.step (fun g => j_icmp_f rfl (cc_ne_f h2) (j_iload_n rfl rfl (j_iconst (0 : Int32) rfl k32_0 (j_iconst (5 : Int32) rfl k32_5 (j_s1 [.int v2, .int (0 : Int32), .int (5 : Int32)] [] rfl rfl rfl rfl rfl (t_Mo_within (by omega) hσ3) (g)))))) ?_
    refine J_ite (fun h5 => ?_) (fun h5 => ?_)
    · refine q_J.step (fun g => j_if_f rfl (cc_ne_f h5) (j_iload_n rfl rfl (j_iconst (2 : Int32) rfl k32_2 (g)))) ?_
      refine J_ite (fun h6 => ?_) (fun h6 => ?_)
      · refine J_cl fun x8 σ7 hσ7 => ?_
        refine q_J.step (fun g => j_icmp_f rfl (cc_ne_f h6) (j_iload_n rfl rfl (j_iconst (0 : Int32) rfl k32_0 (j_bipush (7 : Int32) rfl kb_7 (j_s1 [.int v2, .int (0 : Int32), .int (7 : Int32)] [] rfl rfl rfl rfl rfl (t_Mo_within (by omega) hσ7) (g)))))) ?_
        refine J_ite (fun h9 => ?_) (fun h9 => ?_)
        · refine q_J.step (fun g => j_if_f rfl (cc_ne_f h9) (j_iload_n rfl rfl (j_iconst (3 : Int32) rfl k32_3 (g)))) ?_
          refine J_ite (fun h10 => ?_) (fun h10 => ?_)
          · refine J_cl fun x12 σ11 hσ11 => ?_
            refine q_J.step (fun g => j_icmp_f rfl (cc_ne_f h10) (j_iload_n rfl rfl (j_iconst (0 : Int32) rfl k32_0 (j_iconst (1 : Int32) rfl k32_1 (j_s1 [.int v2, .int (0 : Int32), .int (1 : Int32)] [] rfl rfl rfl rfl rfl (t_Mo_within (by omega) hσ11) (g)))))) ?_
            refine J_ite (fun h13 => ?_) (fun h13 => ?_)
            · exact J_some (fun h => j_if_t rfl (cc_eq_t h13) (j_iconst (0 : Int32) rfl k32_0 (j_iret rfl (q_zr (Or.inl rfl)) h)))
            exact J_some (fun h => j_if_f rfl (cc_eq_f h13) (j_iconst (1 : Int32) rfl k32_1 (j_goto rfl (j_iret rfl (q_zr (Or.inr rfl)) h))))
          exact J_some (fun h => j_icmp_t rfl (cc_ne_t h10) (j_iconst (0 : Int32) rfl k32_0 (j_iret rfl (q_zr (Or.inl rfl)) h)))
        exact J_some (fun h => j_if_t rfl (cc_ne_t h9) (j_iconst (1 : Int32) rfl k32_1 (j_goto rfl (j_iret rfl (q_zr (Or.inr rfl)) h))))
      refine q_J.step (fun g => j_icmp_t rfl (cc_ne_t h6) (j_iload_n rfl rfl (j_iconst (3 : Int32) rfl k32_3 (g)))) ?_
      refine J_ite (fun h14 => ?_) (fun h14 => ?_)
      · refine J_cl fun x16 σ15 hσ15 => ?_
        refine q_J.step (fun g => j_icmp_f rfl (cc_ne_f h14) (j_iload_n rfl rfl (j_iconst (0 : Int32) rfl k32_0 (j_iconst (1 : Int32) rfl k32_1 (j_s1 [.int v2, .int (0 : Int32), .int (1 : Int32)] [] rfl rfl rfl rfl rfl (t_Mo_within (by omega) hσ15) (g)))))) ?_
        refine J_ite (fun h17 => ?_) (fun h17 => ?_)
        · exact J_some (fun h => j_if_t rfl (cc_eq_t h17) (j_iconst (0 : Int32) rfl k32_0 (j_iret rfl (q_zr (Or.inl rfl)) h)))
        exact J_some (fun h => j_if_f rfl (cc_eq_f h17) (j_iconst (1 : Int32) rfl k32_1 (j_goto rfl (j_iret rfl (q_zr (Or.inr rfl)) h))))
      exact J_some (fun h => j_icmp_t rfl (cc_ne_t h14) (j_iconst (0 : Int32) rfl k32_0 (j_iret rfl (q_zr (Or.inl rfl)) h)))
    exact J_some (fun h => j_if_t rfl (cc_ne_t h5) (j_iconst (1 : Int32) rfl k32_1 (j_goto rfl (j_iret rfl (q_zr (Or.inr rfl)) h))))
  refine q_J.step (fun g => j_icmp_t rfl (cc_ne_t h2) (j_iload_n rfl rfl (j_iconst (2 : Int32) rfl k32_2 (g)))) ?_
  refine J_ite (fun h18 => ?_) (fun h18 => ?_)
  · refine J_cl fun x20 σ19 hσ19 => ?_
    refine q_J.step (fun g => j_icmp_f rfl (cc_ne_f h18) (j_iload_n rfl rfl (j_iconst (0 : Int32) rfl k32_0 (j_bipush (7 : Int32) rfl kb_7 (j_s1 [.int v2, .int (0 : Int32), .int (7 : Int32)] [] rfl rfl rfl rfl rfl (t_Mo_within (by omega) hσ19) (g)))))) ?_
    refine J_ite (fun h21 => ?_) (fun h21 => ?_)
    · refine q_J.step (fun g => j_if_f rfl (cc_ne_f h21) (j_iload_n rfl rfl (j_iconst (3 : Int32) rfl k32_3 (g)))) ?_
      refine J_ite (fun h22 => ?_) (fun h22 => ?_)
      · refine J_cl fun x24 σ23 hσ23 => ?_
        refine q_J.step (fun g => j_icmp_f rfl (cc_ne_f h22) (j_iload_n rfl rfl (j_iconst (0 : Int32) rfl k32_0 (j_iconst (1 : Int32) rfl k32_1 (j_s1 [.int v2, .int (0 : Int32), .int (1 : Int32)] [] rfl rfl rfl rfl rfl (t_Mo_within (by omega) hσ23) (g)))))) ?_
        refine J_ite (fun h25 => ?_) (fun h25 => ?_)
        · exact J_some (fun h => j_if_t rfl (cc_eq_t h25) (j_iconst (0 : Int32) rfl k32_0 (j_iret rfl (q_zr (Or.inl rfl)) h)))
        exact J_some (fun h => j_if_f rfl (cc_eq_f h25) (j_iconst (1 : Int32) rfl k32_1 (j_goto rfl (j_iret rfl (q_zr (Or.inr rfl)) h))))
      exact J_some (fun h => j_icmp_t rfl (cc_ne_t h22) (j_iconst (0 : Int32) rfl k32_0 (j_iret rfl (q_zr (Or.inl rfl)) h)))
    exact J_some (fun h => j_if_t rfl (cc_ne_t h21) (j_iconst (1 : Int32) rfl k32_1 (j_goto rfl (j_iret rfl (q_zr (Or.inr rfl)) h))))
  refine q_J.step (fun g => j_icmp_t rfl (cc_ne_t h18) (j_iload_n rfl rfl (j_iconst (3 : Int32) rfl k32_3 (g)))) ?_
  refine J_ite (fun h26 => ?_) (fun h26 => ?_)
  · refine J_cl fun x28 σ27 hσ27 => ?_
    refine q_J.step (fun g => j_icmp_f rfl (cc_ne_f h26) (j_iload_n rfl rfl (j_iconst (0 : Int32) rfl k32_0 (j_iconst (1 : Int32) rfl k32_1 (j_s1 [.int v2, .int (0 : Int32), .int (1 : Int32)] [] rfl rfl rfl rfl rfl (t_Mo_within (by omega) hσ27) (g)))))) ?_
    refine J_ite (fun h29 => ?_) (fun h29 => ?_)
    · exact J_some (fun h => j_if_t rfl (cc_eq_t h29) (j_iconst (0 : Int32) rfl k32_0 (j_iret rfl (q_zr (Or.inl rfl)) h)))
    exact J_some (fun h => j_if_f rfl (cc_eq_f h29) (j_iconst (1 : Int32) rfl k32_1 (j_goto rfl (j_iret rfl (q_zr (Or.inr rfl)) h))))
  exact J_some (fun h => j_icmp_t rfl (cc_ne_t h26) (j_iconst (0 : Int32) rfl k32_0 (j_iret rfl (q_zr (Or.inl rfl)) h)))
theorem t_Mo_isScope {fo : Option Nat} {d : Nat} (hd : 2 ≤ d) {v0 : Nat} {v1 : Int32} {v2 : Int32} {σ σ1 : q_H} {r : Int32} (h : f_Mo_isScope v0 v1 v2 σ = some (r, σ1)) : q_Rel (q_rf fo) q_Ms d 204 [.ref v0, .int v1, .int v2] σ (.inl (some (.int r))) σ1 := by
  obtain ⟨d, rfl⟩ : ∃ d1, d = d1 + 1 := ⟨d - 1, by omega⟩
  exact q_Rel.of rfl rfl (b_Mo_isScope hd _ _ _ σ _ _ h ⟨rfl, rfl⟩)

def f_Mo_others_L9 (v0 : Nat) (v1 : Int32) (v2 : Int32) (v3 : Int32) (v4 : Int32) : Nat → Int32 → Int32 → q_H → Option ((Int32) × q_H)
  | 0, _, _, _ => none
  | n + 1, v5, v6, σ => (q_gr (q_gf σ 12 v0 7)).bind fun x1 => (q_gi (q_ga σ 20 x1 v1)).bind fun x2 => if v6 < (((12 : Int32) * v1) + x2) then (if v6 = v2 then (f_Mo_others_L9 v0 v1 v2 v3 v4 n (v5 + (0 : Int32)) (v6 + (1 : Int32)) σ) else (if v6 = v4 then (f_Mo_others_L9 v0 v1 v2 v3 v4 n (v5 + (0 : Int32)) (v6 + (1 : Int32)) σ) else ((q_gr (q_gf σ 12 v0 8)).bind fun x6 => (q_gi (q_ga σ 20 x6 v6)).bind fun x7 => if x7 = v3 then ((q_ob σ 12 v0).bind fun w9 => q_sq (f_Mo_kinOf v0 v6 v2 σ) fun x11 σ10 => if x11 = (2 : Int32) then (f_Mo_others_L9 v0 v1 v2 v3 v4 n (v5 + (1 : Int32)) (v6 + (1 : Int32)) σ10) else (f_Mo_others_L9 v0 v1 v2 v3 v4 n (v5 + (0 : Int32)) (v6 + (1 : Int32)) σ10)) else (f_Mo_others_L9 v0 v1 v2 v3 v4 n (v5 + (0 : Int32)) (v6 + (1 : Int32)) σ)))) else (some (v5, σ))
set_option maxRecDepth 100000 in
theorem l_Mo_others_L9 {fo : Option Nat} {d : Nat} (hd : 2 ≤ d + 1) {o : q_O} {σ' : q_H} {E : (Int32) → q_H → Prop} (v0 : Nat) (v1 : Int32) (v2 : Int32) (v3 : Int32) (v4 : Int32) (hX : ∀ (t : Int32) σ1, E (t) σ1 → q_G (q_rf fo) d m_Mo_others o σ' 76 [none, none, none, none, none, some (.int t), none] [] σ1)  : ∀ (n : Nat) (v5 : Int32) (v6 : Int32) (σ : q_H), q_J E (f_Mo_others_L9 v0 v1 v2 v3 v4 n v5 v6 σ) (q_G (q_rf fo) d m_Mo_others o σ' 9 [some (.ref v0), some (.int v1), some (.int v2), some (.int v3), some (.int v4), some (.int v5), some (.int v6)] [] σ)
  | 0, v5, v6, σ => J_none
  | n + 1, v5, v6, σ => by
    unfold f_Mo_others_L9
    refine J_bind fun x1 hx1 => ?_
    refine J_bind fun x2 hx2 => ?_
    refine q_J.step (fun g => j_iload rfl rfl (j_bipush (12 : Int32) rfl kb_12 (j_iload_n rfl rfl (j_imul rfl (j_aload_n rfl rfl (j_gfr rfl hx1 (j_iload_n rfl rfl (j_ial rfl hx2 (j_iadd rfl (g)))))))))) ?_
    refine J_ite (fun h3 => ?_) (fun h3 => ?_)
    · refine q_J.step (fun g => j_icmp_f rfl (cc_ge_f h3) (j_iload rfl rfl (j_iload rfl rfl (j_iload_n rfl rfl (g))))) ?_
      refine J_ite (fun h4 => ?_) (fun h4 => ?_)
      · exact q_J.step (fun g => j_icmp_t rfl (cc_eq_t h4) (j_iconst (0 : Int32) rfl k32_0 (j_iadd rfl (j_istore [some (.ref v0), some (.int v1), some (.int v2), some (.int v3), some (.int v4), some (.int (v5 + (0 : Int32))), some (.int v6)] rfl rfl (Or.inr rfl) rfl (j_iinc [some (.ref v0), some (.int v1), some (.int v2), some (.int v3), some (.int v4), some (.int (v5 + (0 : Int32))), some (.int (v6 + (1 : Int32)))] (v6 + (1 : Int32)) rfl rfl (by rw [k32_1]) (Or.inr rfl) rfl (j_goto rfl (g))))))) (l_Mo_others_L9 hd v0 v1 v2 v3 v4 hX n (v5 + (0 : Int32)) (v6 + (1 : Int32)) σ)
      refine q_J.step (fun g => j_icmp_f rfl (cc_eq_f h4) (j_iload rfl rfl (j_iload rfl rfl (g)))) ?_
      refine J_ite (fun h5 => ?_) (fun h5 => ?_)
      · exact q_J.step (fun g => j_icmp_t rfl (cc_eq_t h5) (j_iconst (0 : Int32) rfl k32_0 (j_iadd rfl (j_istore [some (.ref v0), some (.int v1), some (.int v2), some (.int v3), some (.int v4), some (.int (v5 + (0 : Int32))), some (.int v6)] rfl rfl (Or.inr rfl) rfl (j_iinc [some (.ref v0), some (.int v1), some (.int v2), some (.int v3), some (.int v4), some (.int (v5 + (0 : Int32))), some (.int (v6 + (1 : Int32)))] (v6 + (1 : Int32)) rfl rfl (by rw [k32_1]) (Or.inr rfl) rfl (j_goto rfl (g))))))) (l_Mo_others_L9 hd v0 v1 v2 v3 v4 hX n (v5 + (0 : Int32)) (v6 + (1 : Int32)) σ)
      refine J_bind fun x6 hx6 => ?_
      refine J_bind fun x7 hx7 => ?_
      refine q_J.step (fun g => j_icmp_f rfl (cc_eq_f h5) (j_aload_n rfl rfl (j_gfr rfl hx6 (j_iload rfl rfl (j_ial rfl hx7 (j_iload_n rfl rfl (g))))))) ?_
      refine J_ite (fun h8 => ?_) (fun h8 => ?_)
      · refine J_bind fun w9 hw9 => ?_
        refine J_cl fun x11 σ10 hσ10 => ?_
        refine q_J.step (fun g => j_icmp_f rfl (cc_ne_f h8) (j_aload_n rfl rfl (j_iload rfl rfl (j_iload_n rfl rfl (j_v1 [.ref v0, .int v6, .int v2] [.int v5] rfl rfl rfl rfl rfl rfl hw9 (Or.inl rfl) (t_Mo_kinOf (by omega) hσ10) (j_iconst (2 : Int32) rfl k32_2 (g))))))) ?_
        refine J_ite (fun h12 => ?_) (fun h12 => ?_)
        · exact q_J.step (fun g => j_icmp_f rfl (cc_ne_f h12) (j_iconst (1 : Int32) rfl k32_1 (j_goto rfl (j_iadd rfl (j_istore [some (.ref v0), some (.int v1), some (.int v2), some (.int v3), some (.int v4), some (.int (v5 + (1 : Int32))), some (.int v6)] rfl rfl (Or.inr rfl) rfl (j_iinc [some (.ref v0), some (.int v1), some (.int v2), some (.int v3), some (.int v4), some (.int (v5 + (1 : Int32))), some (.int (v6 + (1 : Int32)))] (v6 + (1 : Int32)) rfl rfl (by rw [k32_1]) (Or.inr rfl) rfl (j_goto rfl (g)))))))) (l_Mo_others_L9 hd v0 v1 v2 v3 v4 hX n (v5 + (1 : Int32)) (v6 + (1 : Int32)) σ10)
        exact q_J.step (fun g => j_icmp_t rfl (cc_ne_t h12) (j_iconst (0 : Int32) rfl k32_0 (j_iadd rfl (j_istore [some (.ref v0), some (.int v1), some (.int v2), some (.int v3), some (.int v4), some (.int (v5 + (0 : Int32))), some (.int v6)] rfl rfl (Or.inr rfl) rfl (j_iinc [some (.ref v0), some (.int v1), some (.int v2), some (.int v3), some (.int v4), some (.int (v5 + (0 : Int32))), some (.int (v6 + (1 : Int32)))] (v6 + (1 : Int32)) rfl rfl (by rw [k32_1]) (Or.inr rfl) rfl (j_goto rfl (g))))))) (l_Mo_others_L9 hd v0 v1 v2 v3 v4 hX n (v5 + (0 : Int32)) (v6 + (1 : Int32)) σ10)
      exact q_J.step (fun g => j_icmp_t rfl (cc_ne_t h8) (j_iconst (0 : Int32) rfl k32_0 (j_iadd rfl (j_istore [some (.ref v0), some (.int v1), some (.int v2), some (.int v3), some (.int v4), some (.int (v5 + (0 : Int32))), some (.int v6)] rfl rfl (Or.inr rfl) rfl (j_iinc [some (.ref v0), some (.int v1), some (.int v2), some (.int v3), some (.int v4), some (.int (v5 + (0 : Int32))), some (.int (v6 + (1 : Int32)))] (v6 + (1 : Int32)) rfl rfl (by rw [k32_1]) (Or.inr rfl) rfl (j_goto rfl (g))))))) (l_Mo_others_L9 hd v0 v1 v2 v3 v4 hX n (v5 + (0 : Int32)) (v6 + (1 : Int32)) σ)
    exact J_some (fun h => j_icmp_t rfl (cc_ge_t h3) (j_weak (l := [none, none, none, none, none, some (.int v5), none]) (And.intro (Or.inl rfl) (And.intro (Or.inl rfl) (And.intro (Or.inl rfl) (And.intro (Or.inl rfl) (And.intro (Or.inl rfl) (And.intro (Or.inr rfl) (And.intro (Or.inl rfl) True.intro))))))) (hX _ _ h)))

def f_Mo_others (v0 : Nat) (v1 : Int32) (v2 : Int32) (v3 : Int32) (v4 : Int32) (σ : q_H) : Option ((Int32) × q_H) := q_sq (f_Mo_others_L9 v0 v1 v2 v3 v4 q_FU (0 : Int32) ((12 : Int32) * v1) σ) fun (t13 : Int32) σ14 => some (t13, σ14)
set_option maxRecDepth 100000 in
theorem b_Mo_others {fo : Option Nat} {d : Nat} (hd : 2 ≤ d + 1) {o : q_O} {σ' : q_H} (v0 : Nat) (v1 : Int32) (v2 : Int32) (v3 : Int32) (v4 : Int32) (σ : q_H) : q_J (fun (r : Int32) (σ1 : q_H) => o = .inl (some (.int r)) ∧ σ' = σ1) (f_Mo_others v0 v1 v2 v3 v4 σ) (q_G (q_rf fo) d m_Mo_others o σ' 0 [some (.ref v0), some (.int v1), some (.int v2), some (.int v3), some (.int v4), none, none] [] σ) := by
  unfold f_Mo_others
  refine J_sq (fun (t13 : Int32) (σ14 : q_H) => q_G (q_rf fo) d m_Mo_others o σ' 76 [none, none, none, none, none, some (.int t13), none] [] σ14) (q_J.step (fun g => j_iconst (0 : Int32) rfl k32_0 (j_istore [some (.ref v0), some (.int v1), some (.int v2), some (.int v3), some (.int v4), some (.int (0 : Int32)), none] rfl rfl (Or.inr rfl) rfl (j_bipush (12 : Int32) rfl kb_12 (j_iload_n rfl rfl (j_imul rfl (j_istore [some (.ref v0), some (.int v1), some (.int v2), some (.int v3), some (.int v4), some (.int (0 : Int32)), some (.int ((12 : Int32) * v1))] rfl rfl (Or.inr rfl) rfl (g))))))) (l_Mo_others_L9 hd v0 v1 v2 v3 v4 (fun _ _ h => h) q_FU (0 : Int32) ((12 : Int32) * v1) σ)) (fun t13 σ14 => ?_)
  exact J_some (fun h => j_iload rfl rfl (j_iret rfl rfl h))
theorem t_Mo_others {fo : Option Nat} {d : Nat} (hd : 2 ≤ d) {v0 : Nat} {v1 : Int32} {v2 : Int32} {v3 : Int32} {v4 : Int32} {σ σ1 : q_H} {r : Int32} (h : f_Mo_others v0 v1 v2 v3 v4 σ = some (r, σ1)) : q_Rel (q_rf fo) q_Ms d 208 [.ref v0, .int v1, .int v2, .int v3, .int v4] σ (.inl (some (.int r))) σ1 := by
  obtain ⟨d, rfl⟩ : ∃ d1, d = d1 + 1 := ⟨d - 1, by omega⟩
  exact q_Rel.of rfl rfl (b_Mo_others hd _ _ _ _ _ σ _ _ h ⟨rfl, rfl⟩)

def f_Mo_firstBorn (v0 : Nat) (v1 : Int32) (v2 : Int32) (σ : q_H) : Option ((Int32) × q_H) := (q_gr (q_gf σ 12 v0 5)).bind fun x1 => (q_gi (q_ga σ 20 x1 v1)).bind fun x2 => (q_gr (q_gf σ 12 v0 9)).bind fun x3 => (q_gi (q_ga σ 20 x3 (((12 : Int32) * v1) + v2))).bind fun x4 => (q_gr (q_gf σ 12 v0 9)).bind fun x5 => (q_gi (q_ga σ 20 x5 (((12 : Int32) * v1) + v2))).bind fun x6 => q_sq (f_Mo_wide x6 σ) fun x8 σ7 => some (((((14 : Int32) * x2) - x4) - (x8 / (2 : Int32))), σ7)
set_option maxRecDepth 100000 in
theorem b_Mo_firstBorn {fo : Option Nat} {d : Nat} (hd : 2 ≤ d + 1) {o : q_O} {σ' : q_H} (v0 : Nat) (v1 : Int32) (v2 : Int32) (σ : q_H) : q_J (fun (r : Int32) (σ1 : q_H) => o = .inl (some (.int r)) ∧ σ' = σ1) (f_Mo_firstBorn v0 v1 v2 σ) (q_G (q_rf fo) d m_Mo_firstBorn o σ' 0 [some (.ref v0), some (.int v1), some (.int v2)] [] σ) := by
  unfold f_Mo_firstBorn
  refine J_bind fun x1 hx1 => ?_
  refine J_bind fun x2 hx2 => ?_
  refine J_bind fun x3 hx3 => ?_
  refine J_bind fun x4 hx4 => ?_
  refine J_bind fun x5 hx5 => ?_
  refine J_bind fun x6 hx6 => ?_
  refine J_cl fun x8 σ7 hσ7 => ?_
  exact J_some (fun h => j_bipush (14 : Int32) rfl kb_14 (j_aload_n rfl rfl (j_gfr rfl hx1 (j_iload_n rfl rfl (j_ial rfl hx2 (j_imul rfl (j_aload_n rfl rfl (j_gfr rfl hx3 (j_bipush (12 : Int32) rfl kb_12 (j_iload_n rfl rfl (j_imul rfl (j_iload_n rfl rfl (j_iadd rfl (j_ial rfl hx4 (j_isub rfl (j_aload_n rfl rfl (j_gfr rfl hx5 (j_bipush (12 : Int32) rfl kb_12 (j_iload_n rfl rfl (j_imul rfl (j_iload_n rfl rfl (j_iadd rfl (j_ial rfl hx6 (j_s1 [.int x6] [.int (((14 : Int32) * x2) - x4)] rfl rfl rfl rfl rfl (t_Mo_wide (by omega) hσ7) (j_iconst (2 : Int32) rfl k32_2 (j_idiv rfl (by decide) (j_isub rfl (j_iret rfl rfl h))))))))))))))))))))))))))))
theorem t_Mo_firstBorn {fo : Option Nat} {d : Nat} (hd : 2 ≤ d) {v0 : Nat} {v1 : Int32} {v2 : Int32} {σ σ1 : q_H} {r : Int32} (h : f_Mo_firstBorn v0 v1 v2 σ = some (r, σ1)) : q_Rel (q_rf fo) q_Ms d 222 [.ref v0, .int v1, .int v2] σ (.inl (some (.int r))) σ1 := by
  obtain ⟨d, rfl⟩ : ∃ d1, d = d1 + 1 := ⟨d - 1, by omega⟩
  exact q_Rel.of rfl rfl (b_Mo_firstBorn hd _ _ _ σ _ _ h ⟨rfl, rfl⟩)

def f_Mo_lastBorn (v0 : Nat) (v1 : Int32) (v2 : Int32) (σ : q_H) : Option ((Int32) × q_H) := (q_gr (q_gf σ 12 v0 5)).bind fun x1 => (q_gi (q_ga σ 20 x1 v1)).bind fun x2 => (q_gr (q_gf σ 12 v0 9)).bind fun x3 => (q_gi (q_ga σ 20 x3 (((12 : Int32) * v1) + v2))).bind fun x4 => (q_gr (q_gf σ 12 v0 9)).bind fun x5 => (q_gi (q_ga σ 20 x5 (((12 : Int32) * v1) + v2))).bind fun x6 => q_sq (f_Mo_wide x6 σ) fun x8 σ7 => some (((((14 : Int32) * x2) - x4) + (x8 / (2 : Int32))), σ7)
set_option maxRecDepth 100000 in
theorem b_Mo_lastBorn {fo : Option Nat} {d : Nat} (hd : 2 ≤ d + 1) {o : q_O} {σ' : q_H} (v0 : Nat) (v1 : Int32) (v2 : Int32) (σ : q_H) : q_J (fun (r : Int32) (σ1 : q_H) => o = .inl (some (.int r)) ∧ σ' = σ1) (f_Mo_lastBorn v0 v1 v2 σ) (q_G (q_rf fo) d m_Mo_lastBorn o σ' 0 [some (.ref v0), some (.int v1), some (.int v2)] [] σ) := by
  unfold f_Mo_lastBorn
  refine J_bind fun x1 hx1 => ?_
  refine J_bind fun x2 hx2 => ?_
  refine J_bind fun x3 hx3 => ?_
  refine J_bind fun x4 hx4 => ?_
  refine J_bind fun x5 hx5 => ?_
  refine J_bind fun x6 hx6 => ?_
  refine J_cl fun x8 σ7 hσ7 => ?_
  exact J_some (fun h => j_bipush (14 : Int32) rfl kb_14 (j_aload_n rfl rfl (j_gfr rfl hx1 (j_iload_n rfl rfl (j_ial rfl hx2 (j_imul rfl (j_aload_n rfl rfl (j_gfr rfl hx3 (j_bipush (12 : Int32) rfl kb_12 (j_iload_n rfl rfl (j_imul rfl (j_iload_n rfl rfl (j_iadd rfl (j_ial rfl hx4 (j_isub rfl (j_aload_n rfl rfl (j_gfr rfl hx5 (j_bipush (12 : Int32) rfl kb_12 (j_iload_n rfl rfl (j_imul rfl (j_iload_n rfl rfl (j_iadd rfl (j_ial rfl hx6 (j_s1 [.int x6] [.int (((14 : Int32) * x2) - x4)] rfl rfl rfl rfl rfl (t_Mo_wide (by omega) hσ7) (j_iconst (2 : Int32) rfl k32_2 (j_idiv rfl (by decide) (j_iadd rfl (j_iret rfl rfl h))))))))))))))))))))))))))))
theorem t_Mo_lastBorn {fo : Option Nat} {d : Nat} (hd : 2 ≤ d) {v0 : Nat} {v1 : Int32} {v2 : Int32} {σ σ1 : q_H} {r : Int32} (h : f_Mo_lastBorn v0 v1 v2 σ = some (r, σ1)) : q_Rel (q_rf fo) q_Ms d 223 [.ref v0, .int v1, .int v2] σ (.inl (some (.int r))) σ1 := by
  obtain ⟨d, rfl⟩ : ∃ d1, d = d1 + 1 := ⟨d - 1, by omega⟩
  exact q_Rel.of rfl rfl (b_Mo_lastBorn hd _ _ _ σ _ _ h ⟨rfl, rfl⟩)

def f_Mo_table (v0 : Nat) (v1 : Int32) (v2 : Int32) (v3 : Int32) (σ : q_H) : Option ((Int32) × q_H) := (q_sf σ 12 v0 0 (.int (0 : Int32))).bind fun σ1 => q_sq (f_Mo_isTable v1 σ1) fun x3 σ2 => if x3 = (0 : Int32) then (some ((0 : Int32), σ2)) else (q_sq (f_Mo_within v2 (0 : Int32) (16 : Int32) σ2) fun x6 σ5 => if x6 = (0 : Int32) then (some ((0 : Int32), σ5)) else (q_sq (f_Mo_within v3 (0 : Int32) (1000 : Int32) σ5) fun x9 σ8 => if x9 = (0 : Int32) then (some ((0 : Int32), σ8)) else ((q_gr (q_gf σ8 12 v0 30)).bind fun x11 => (q_sa σ8 20 x11 (((17 : Int32) * v1) + v2) (.int v3)).bind fun σ12 => some ((1 : Int32), σ12))))
set_option maxRecDepth 100000 in
theorem b_Mo_table {fo : Option Nat} {d : Nat} (hd : 2 ≤ d + 1) {o : q_O} {σ' : q_H} (v0 : Nat) (v1 : Int32) (v2 : Int32) (v3 : Int32) (σ : q_H) : q_J (fun (r : Int32) (σ1 : q_H) => o = .inl (some (.int r)) ∧ σ' = σ1) (f_Mo_table v0 v1 v2 v3 σ) (q_G (q_rf fo) d m_Mo_table o σ' 0 [some (.ref v0), some (.int v1), some (.int v2), some (.int v3)] [] σ) := by
  unfold f_Mo_table
  refine J_bind fun σ1 hσ1 => ?_
  refine J_cl fun x3 σ2 hσ2 => ?_
  refine q_J.step (fun g => j_aload_n rfl rfl (j_iconst (0 : Int32) rfl k32_0 (j_putf rfl rfl rfl rfl hσ1 (j_iload_n rfl rfl (j_s1 [.int v1] [] rfl rfl rfl rfl rfl (t_Mo_isTable (by omega) hσ2) (g)))))) ?_
  refine J_ite (fun h4 => ?_) (fun h4 => ?_)
  · exact J_some (fun h => j_if_t rfl (cc_eq_t h4) (j_iconst (0 : Int32) rfl k32_0 (j_iret rfl (q_zr (Or.inl rfl)) h)))
  refine J_cl fun x6 σ5 hσ5 => ?_
  refine q_J.step (fun g => j_if_f rfl (cc_eq_f h4) (j_iload_n rfl rfl (j_iconst (0 : Int32) rfl k32_0 (j_bipush (16 : Int32) rfl kb_16 (j_s1 [.int v2, .int (0 : Int32), .int (16 : Int32)] [] rfl rfl rfl rfl rfl (t_Mo_within (by omega) hσ5) (g)))))) ?_
  refine J_ite (fun h7 => ?_) (fun h7 => ?_)
  · exact J_some (fun h => j_if_t rfl (cc_eq_t h7) (j_iconst (0 : Int32) rfl k32_0 (j_iret rfl (q_zr (Or.inl rfl)) h)))
  refine J_cl fun x9 σ8 hσ8 => ?_
  refine q_J.step (fun g => j_if_f rfl (cc_eq_f h7) (j_iload_n rfl rfl (j_iconst (0 : Int32) rfl k32_0 (j_sipush (1000 : Int32) rfl ks_1000 (j_s1 [.int v3, .int (0 : Int32), .int (1000 : Int32)] [] rfl rfl rfl rfl rfl (t_Mo_within (by omega) hσ8) (g)))))) ?_
  refine J_ite (fun h10 => ?_) (fun h10 => ?_)
  · exact J_some (fun h => j_if_f rfl (cc_ne_f h10) (j_iconst (0 : Int32) rfl k32_0 (j_iret rfl (q_zr (Or.inl rfl)) h)))
  refine J_bind fun x11 hx11 => ?_
  refine J_bind fun σ12 hσ12 => ?_
  exact J_some (fun h => j_if_t rfl (cc_ne_t h10) (j_aload_n rfl rfl (j_gfr rfl hx11 (j_bipush (17 : Int32) rfl kb_17 (j_iload_n rfl rfl (j_imul rfl (j_iload_n rfl rfl (j_iadd rfl (j_iload_n rfl rfl (j_ias rfl hσ12 (j_iconst (1 : Int32) rfl k32_1 (j_iret rfl (q_zr (Or.inr rfl)) h))))))))))))
theorem t_Mo_table {fo : Option Nat} {d : Nat} (hd : 2 ≤ d) {v0 : Nat} {v1 : Int32} {v2 : Int32} {v3 : Int32} {σ σ1 : q_H} {r : Int32} (h : f_Mo_table v0 v1 v2 v3 σ = some (r, σ1)) : q_Rel (q_rf fo) q_Ms d 233 [.ref v0, .int v1, .int v2, .int v3] σ (.inl (some (.int r))) σ1 := by
  obtain ⟨d, rfl⟩ : ∃ d1, d = d1 + 1 := ⟨d - 1, by omega⟩
  exact q_Rel.of rfl rfl (b_Mo_table hd _ _ _ _ σ _ _ h ⟨rfl, rfl⟩)

def f_Mo_at (v0 : Nat) (v1 : Int32) (v2 : Int32) (σ : q_H) : Option ((Int32) × q_H) := (q_sf σ 12 v0 0 (.int (0 : Int32))).bind fun σ1 => q_sq (f_Mo_isTable v1 σ1) fun x3 σ2 => if x3 = (0 : Int32) then (some ((-1 : Int32), σ2)) else (q_sq (f_Mo_within v2 (0 : Int32) (200 : Int32) σ2) fun x6 σ5 => if x6 = (0 : Int32) then (some ((-1 : Int32), σ5)) else ((q_ob σ5 12 v0).bind fun w8 => q_sq (f_Mo_atAge v0 v1 v2 σ5) fun x10 σ9 => some (x10, σ9)))
set_option maxRecDepth 100000 in
theorem b_Mo_at {fo : Option Nat} {d : Nat} (hd : 2 ≤ d + 1) {o : q_O} {σ' : q_H} (v0 : Nat) (v1 : Int32) (v2 : Int32) (σ : q_H) : q_J (fun (r : Int32) (σ1 : q_H) => o = .inl (some (.int r)) ∧ σ' = σ1) (f_Mo_at v0 v1 v2 σ) (q_G (q_rf fo) d m_Mo_at o σ' 0 [some (.ref v0), some (.int v1), some (.int v2)] [] σ) := by
  unfold f_Mo_at
  refine J_bind fun σ1 hσ1 => ?_
  refine J_cl fun x3 σ2 hσ2 => ?_
  refine q_J.step (fun g => j_aload_n rfl rfl (j_iconst (0 : Int32) rfl k32_0 (j_putf rfl rfl rfl rfl hσ1 (j_iload_n rfl rfl (j_s1 [.int v1] [] rfl rfl rfl rfl rfl (t_Mo_isTable (by omega) hσ2) (g)))))) ?_
  refine J_ite (fun h4 => ?_) (fun h4 => ?_)
  · exact J_some (fun h => j_if_t rfl (cc_eq_t h4) (j_iconst (-1 : Int32) rfl k32_m1 (j_iret rfl rfl h)))
  refine J_cl fun x6 σ5 hσ5 => ?_
  refine q_J.step (fun g => j_if_f rfl (cc_eq_f h4) (j_iload_n rfl rfl (j_iconst (0 : Int32) rfl k32_0 (j_sipush (200 : Int32) rfl ks_200 (j_s1 [.int v2, .int (0 : Int32), .int (200 : Int32)] [] rfl rfl rfl rfl rfl (t_Mo_within (by omega) hσ5) (g)))))) ?_
  refine J_ite (fun h7 => ?_) (fun h7 => ?_)
  · exact J_some (fun h => j_if_t rfl (cc_eq_t h7) (j_iconst (-1 : Int32) rfl k32_m1 (j_iret rfl rfl h)))
  refine J_bind fun w8 hw8 => ?_
  refine J_cl fun x10 σ9 hσ9 => ?_
  exact J_some (fun h => j_if_f rfl (cc_eq_f h7) (j_aload_n rfl rfl (j_iload_n rfl rfl (j_iload_n rfl rfl (j_v1 [.ref v0, .int v1, .int v2] [] rfl rfl rfl rfl rfl rfl hw8 (Or.inl rfl) (t_Mo_atAge (by omega) hσ9) (j_goto rfl (j_iret rfl rfl h)))))))
theorem t_Mo_at {fo : Option Nat} {d : Nat} (hd : 2 ≤ d) {v0 : Nat} {v1 : Int32} {v2 : Int32} {σ σ1 : q_H} {r : Int32} (h : f_Mo_at v0 v1 v2 σ = some (r, σ1)) : q_Rel (q_rf fo) q_Ms d 235 [.ref v0, .int v1, .int v2] σ (.inl (some (.int r))) σ1 := by
  obtain ⟨d, rfl⟩ : ∃ d1, d = d1 + 1 := ⟨d - 1, by omega⟩
  exact q_Rel.of rfl rfl (b_Mo_at hd _ _ _ σ _ _ h ⟨rfl, rfl⟩)

def f_Mo_life_L39 (v0 : Nat) (v1 : Int32) (v2 : Int32) (v3 : Int32) : Nat → Int32 → Int32 → q_H → Option ((Int32) × q_H)
  | 0, _, _, _ => none
  | n + 1, v4, v5, σ => if v5 < v2 then ((q_ob σ 12 v0).bind fun w12 => q_sq (f_Mo_living v0 v1 v5 σ) fun x14 σ13 => f_Mo_life_L39 v0 v1 v2 v3 n (v4 + ((5 : Int32) * x14)) (v5 + (1 : Int32)) σ13) else (some (v4, σ))
set_option maxRecDepth 100000 in
theorem l_Mo_life_L39 {fo : Option Nat} {d : Nat} (hd : 2 ≤ d + 1) {o : q_O} {σ' : q_H} {E : (Int32) → q_H → Prop} (v0 : Nat) (v1 : Int32) (v2 : Int32) (v3 : Int32) (hX : ∀ (t : Int32) σ1, E (t) σ1 → q_G (q_rf fo) d m_Mo_life o σ' 65 [none, none, none, some (.int v3), some (.int t), none] [] σ1)  : ∀ (n : Nat) (v4 : Int32) (v5 : Int32) (σ : q_H), q_J E (f_Mo_life_L39 v0 v1 v2 v3 n v4 v5 σ) (q_G (q_rf fo) d m_Mo_life o σ' 39 [some (.ref v0), some (.int v1), some (.int v2), some (.int v3), some (.int v4), some (.int v5)] [] σ)
  | 0, v4, v5, σ => J_none
  | n + 1, v4, v5, σ => by
    unfold f_Mo_life_L39
    refine q_J.step (fun g => j_iload rfl rfl (j_iload_n rfl rfl (g))) ?_
    refine J_ite (fun h11 => ?_) (fun h11 => ?_)
    · refine J_bind fun w12 hw12 => ?_
      refine J_cl fun x14 σ13 hσ13 => ?_
      exact q_J.step (fun g => j_icmp_f rfl (cc_ge_f h11) (j_iload rfl rfl (j_iconst (5 : Int32) rfl k32_5 (j_aload_n rfl rfl (j_iload_n rfl rfl (j_iload rfl rfl (j_v1 [.ref v0, .int v1, .int v5] [.int (5 : Int32), .int v4] rfl rfl rfl rfl rfl rfl hw12 (Or.inl rfl) (t_Mo_living (by omega) hσ13) (j_imul rfl (j_iadd rfl (j_istore [some (.ref v0), some (.int v1), some (.int v2), some (.int v3), some (.int (v4 + ((5 : Int32) * x14))), some (.int v5)] rfl rfl (Or.inr rfl) rfl (j_iinc [some (.ref v0), some (.int v1), some (.int v2), some (.int v3), some (.int (v4 + ((5 : Int32) * x14))), some (.int (v5 + (1 : Int32)))] (v5 + (1 : Int32)) rfl rfl (by rw [k32_1]) (Or.inr rfl) rfl (j_goto rfl (g))))))))))))) (l_Mo_life_L39 hd v0 v1 v2 v3 hX n (v4 + ((5 : Int32) * x14)) (v5 + (1 : Int32)) σ13)
    exact J_some (fun h => j_icmp_t rfl (cc_ge_t h11) (j_weak (l := [none, none, none, some (.int v3), some (.int v4), none]) (And.intro (Or.inl rfl) (And.intro (Or.inl rfl) (And.intro (Or.inl rfl) (And.intro (Or.inr rfl) (And.intro (Or.inr rfl) (And.intro (Or.inl rfl) True.intro)))))) (hX _ _ h)))

def f_Mo_life (v0 : Nat) (v1 : Int32) (v2 : Int32) (v3 : Int32) (σ : q_H) : Option ((Int32) × q_H) := (q_sf σ 12 v0 0 (.int (0 : Int32))).bind fun σ1 => q_sq (f_Mo_isTable v1 σ1) fun x3 σ2 => if x3 = (0 : Int32) then (some ((-1 : Int32), σ2)) else (q_sq (f_Mo_within v2 (0 : Int32) (17 : Int32) σ2) fun x6 σ5 => if x6 = (0 : Int32) then (some ((-1 : Int32), σ5)) else (q_sq (f_Mo_within v3 (0 : Int32) (1 : Int32) σ5) fun x9 σ8 => if x9 = (0 : Int32) then (some ((-1 : Int32), σ8)) else (q_sq (f_Mo_life_L39 v0 v1 v2 v3 q_FU (0 : Int32) (0 : Int32) σ8) fun (t15 : Int32) σ16 => q_sq (f_Mo_lowest t15.toInt64 (2000 : Int64) v3 σ16) fun x18 σ17 => some (x18.toInt32, σ17))))
set_option maxRecDepth 100000 in
theorem b_Mo_life {fo : Option Nat} {d : Nat} (hd : 2 ≤ d + 1) {o : q_O} {σ' : q_H} (v0 : Nat) (v1 : Int32) (v2 : Int32) (v3 : Int32) (σ : q_H) : q_J (fun (r : Int32) (σ1 : q_H) => o = .inl (some (.int r)) ∧ σ' = σ1) (f_Mo_life v0 v1 v2 v3 σ) (q_G (q_rf fo) d m_Mo_life o σ' 0 [some (.ref v0), some (.int v1), some (.int v2), some (.int v3), none, none] [] σ) := by
  unfold f_Mo_life
  refine J_bind fun σ1 hσ1 => ?_
  refine J_cl fun x3 σ2 hσ2 => ?_
  refine q_J.step (fun g => j_aload_n rfl rfl (j_iconst (0 : Int32) rfl k32_0 (j_putf rfl rfl rfl rfl hσ1 (j_iload_n rfl rfl (j_s1 [.int v1] [] rfl rfl rfl rfl rfl (t_Mo_isTable (by omega) hσ2) (g)))))) ?_
  refine J_ite (fun h4 => ?_) (fun h4 => ?_)
  · exact J_some (fun h => j_if_t rfl (cc_eq_t h4) (j_iconst (-1 : Int32) rfl k32_m1 (j_iret rfl rfl h)))
  refine J_cl fun x6 σ5 hσ5 => ?_
  refine q_J.step (fun g => j_if_f rfl (cc_eq_f h4) (j_iload_n rfl rfl (j_iconst (0 : Int32) rfl k32_0 (j_bipush (17 : Int32) rfl kb_17 (j_s1 [.int v2, .int (0 : Int32), .int (17 : Int32)] [] rfl rfl rfl rfl rfl (t_Mo_within (by omega) hσ5) (g)))))) ?_
  refine J_ite (fun h7 => ?_) (fun h7 => ?_)
  · exact J_some (fun h => j_if_t rfl (cc_eq_t h7) (j_iconst (-1 : Int32) rfl k32_m1 (j_iret rfl rfl h)))
  refine J_cl fun x9 σ8 hσ8 => ?_
  refine q_J.step (fun g => j_if_f rfl (cc_eq_f h7) (j_iload_n rfl rfl (j_iconst (0 : Int32) rfl k32_0 (j_iconst (1 : Int32) rfl k32_1 (j_s1 [.int v3, .int (0 : Int32), .int (1 : Int32)] [] rfl rfl rfl rfl rfl (t_Mo_within (by omega) hσ8) (g)))))) ?_
  refine J_ite (fun h10 => ?_) (fun h10 => ?_)
  · exact J_some (fun h => j_if_f rfl (cc_ne_f h10) (j_iconst (-1 : Int32) rfl k32_m1 (j_iret rfl rfl h)))
  refine J_sq (fun (t15 : Int32) (σ16 : q_H) => q_G (q_rf fo) d m_Mo_life o σ' 65 [none, none, none, some (.int v3), some (.int t15), none] [] σ16) (q_J.step (fun g => j_if_t rfl (cc_ne_t h10) (j_iconst (0 : Int32) rfl k32_0 (j_istore [some (.ref v0), some (.int v1), some (.int v2), some (.int v3), some (.int (0 : Int32)), none] rfl rfl (Or.inr rfl) rfl (j_iconst (0 : Int32) rfl k32_0 (j_istore [some (.ref v0), some (.int v1), some (.int v2), some (.int v3), some (.int (0 : Int32)), some (.int (0 : Int32))] rfl rfl (Or.inr rfl) rfl (g)))))) (l_Mo_life_L39 hd v0 v1 v2 v3 (fun _ _ h => h) q_FU (0 : Int32) (0 : Int32) σ8)) (fun t15 σ16 => ?_)
  refine J_cl fun x18 σ17 hσ17 => ?_
  exact J_some (fun h => j_iload rfl rfl (j_i2l rfl (j_ldc2 (2000 : Int64) rfl kw_2000 (j_iload_n rfl rfl (j_s1 [.long t15.toInt64, .long (2000 : Int64), .int v3] [] rfl rfl rfl rfl rfl (t_Mo_lowest (by omega) hσ17) (j_l2i rfl (j_iret rfl rfl h)))))))
theorem t_Mo_life {fo : Option Nat} {d : Nat} (hd : 2 ≤ d) {v0 : Nat} {v1 : Int32} {v2 : Int32} {v3 : Int32} {σ σ1 : q_H} {r : Int32} (h : f_Mo_life v0 v1 v2 v3 σ = some (r, σ1)) : q_Rel (q_rf fo) q_Ms d 241 [.ref v0, .int v1, .int v2, .int v3] σ (.inl (some (.int r))) σ1 := by
  obtain ⟨d, rfl⟩ : ∃ d1, d = d1 + 1 := ⟨d - 1, by omega⟩
  exact q_Rel.of rfl rfl (b_Mo_life hd _ _ _ _ σ _ _ h ⟨rfl, rfl⟩)

def f_Mo_gap (v0 : Nat) (v1 : Int32) (σ : q_H) : Option ((Int32) × q_H) := (q_sf σ 12 v0 0 (.int (0 : Int32))).bind fun σ1 => q_sq (f_Mo_within v1 (-30 : Int32) (30 : Int32) σ1) fun x3 σ2 => if x3 = (0 : Int32) then (some ((-1 : Int32), σ2)) else ((q_gi (q_gf σ2 12 v0 32)).bind fun x5 => if x5 = (4 : Int32) then (some ((-1 : Int32), σ2)) else ((q_gr (q_gf σ2 12 v0 33)).bind fun x7 => (q_gi (q_gf σ2 12 v0 32)).bind fun x8 => (q_sa σ2 20 x7 x8 (.int v1)).bind fun σ9 => (q_gi (q_gf σ9 12 v0 32)).bind fun x10 => (q_sf σ9 12 v0 32 (.int (x10 + (1 : Int32)))).bind fun σ11 => (q_gi (q_gf σ11 12 v0 32)).bind fun x12 => some (x12, σ11)))
set_option maxRecDepth 100000 in
theorem b_Mo_gap {fo : Option Nat} {d : Nat} (hd : 2 ≤ d + 1) {o : q_O} {σ' : q_H} (v0 : Nat) (v1 : Int32) (σ : q_H) : q_J (fun (r : Int32) (σ1 : q_H) => o = .inl (some (.int r)) ∧ σ' = σ1) (f_Mo_gap v0 v1 σ) (q_G (q_rf fo) d m_Mo_gap o σ' 0 [some (.ref v0), some (.int v1)] [] σ) := by
  unfold f_Mo_gap
  refine J_bind fun σ1 hσ1 => ?_
  refine J_cl fun x3 σ2 hσ2 => ?_
  refine q_J.step (fun g => j_aload_n rfl rfl (j_iconst (0 : Int32) rfl k32_0 (j_putf rfl rfl rfl rfl hσ1 (j_iload_n rfl rfl (j_bipush (-30 : Int32) rfl kb_m30 (j_bipush (30 : Int32) rfl kb_30 (j_s1 [.int v1, .int (-30 : Int32), .int (30 : Int32)] [] rfl rfl rfl rfl rfl (t_Mo_within (by omega) hσ2) (g)))))))) ?_
  refine J_ite (fun h4 => ?_) (fun h4 => ?_)
  · exact J_some (fun h => j_if_t rfl (cc_eq_t h4) (j_iconst (-1 : Int32) rfl k32_m1 (j_iret rfl rfl h)))
  refine J_bind fun x5 hx5 => ?_
  refine q_J.step (fun g => j_if_f rfl (cc_eq_f h4) (j_aload_n rfl rfl (j_gfi rfl hx5 (j_iconst (4 : Int32) rfl k32_4 (g))))) ?_
  refine J_ite (fun h6 => ?_) (fun h6 => ?_)
  · exact J_some (fun h => j_icmp_f rfl (cc_ne_f h6) (j_iconst (-1 : Int32) rfl k32_m1 (j_iret rfl rfl h)))
  refine J_bind fun x7 hx7 => ?_
  refine J_bind fun x8 hx8 => ?_
  refine J_bind fun σ9 hσ9 => ?_
  refine J_bind fun x10 hx10 => ?_
  refine J_bind fun σ11 hσ11 => ?_
  refine J_bind fun x12 hx12 => ?_
  exact J_some (fun h => j_icmp_t rfl (cc_ne_t h6) (j_aload_n rfl rfl (j_gfr rfl hx7 (j_aload_n rfl rfl (j_gfi rfl hx8 (j_iload_n rfl rfl (j_ias rfl hσ9 (j_aload_n rfl rfl (j_dup rfl rfl (j_gfi rfl hx10 (j_iconst (1 : Int32) rfl k32_1 (j_iadd rfl (j_putf rfl rfl rfl rfl hσ11 (j_aload_n rfl rfl (j_gfi rfl hx12 (j_iret rfl rfl h))))))))))))))))
theorem t_Mo_gap {fo : Option Nat} {d : Nat} (hd : 2 ≤ d) {v0 : Nat} {v1 : Int32} {σ σ1 : q_H} {r : Int32} (h : f_Mo_gap v0 v1 σ = some (r, σ1)) : q_Rel (q_rf fo) q_Ms d 242 [.ref v0, .int v1] σ (.inl (some (.int r))) σ1 := by
  obtain ⟨d, rfl⟩ : ∃ d1, d = d1 + 1 := ⟨d - 1, by omega⟩
  exact q_Rel.of rfl rfl (b_Mo_gap hd _ _ σ _ _ h ⟨rfl, rfl⟩)

def f_Mo_couldOf_L11 (v0 : Nat) (v1 : Int32) (v2 : Int32) (v3 : Int32) : Nat → Int64 → Int32 → q_H → Option ((Int64) × q_H)
  | 0, _, _, _ => none
  | n + 1, v4, v6, σ => (q_gi (q_gf σ 12 v0 32)).bind fun x2 => if v6 < x2 then ((q_gr (q_gf σ 12 v0 33)).bind fun x4 => (q_gi (q_ga σ 20 x4 v6)).bind fun x5 => q_sq (f_Mo_within x5 (-v3) v3 σ) fun x7 σ6 => if x7 = (0 : Int32) then (f_Mo_couldOf_L11 v0 v1 v2 v3 n v4 (v6 + (1 : Int32)) σ6) else ((q_gr (q_gf σ6 12 v0 33)).bind fun x9 => (q_gi (q_ga σ6 20 x9 v6)).bind fun x10 => if (v2 + x10) < (0 : Int32) then (f_Mo_couldOf_L11 v0 v1 v2 v3 n v4 (v6 + (1 : Int32)) σ6) else ((q_gr (q_gf σ6 12 v0 33)).bind fun x12 => (q_gi (q_ga σ6 20 x12 v6)).bind fun x13 => (q_ob σ6 12 v0).bind fun w14 => q_sq (f_Mo_atAge v0 v1 (v2 + x13) σ6) fun x16 σ15 => (q_gl' (q_gf σ15 12 v0 34)).bind fun x17 => (q_sf σ15 12 v0 34 (.long (x17 * (10000 : Int64)))).bind fun σ18 => f_Mo_couldOf_L11 v0 v1 v2 v3 n (v4 * ((10000 : Int64) - x16.toInt64)) (v6 + (1 : Int32)) σ18))) else (some (v4, σ))
set_option maxRecDepth 100000 in
theorem l_Mo_couldOf_L11 {fo : Option Nat} {d : Nat} (hd : 2 ≤ d + 1) {o : q_O} {σ' : q_H} {E : (Int64) → q_H → Prop} (v0 : Nat) (v1 : Int32) (v2 : Int32) (v3 : Int32) (hX : ∀ (t : Int64) σ1, E (t) σ1 → q_G (q_rf fo) d m_Mo_couldOf o σ' 93 [some (.ref v0), none, none, none, some (.long t), none, none] [] σ1)  : ∀ (n : Nat) (v4 : Int64) (v6 : Int32) (σ : q_H), q_J E (f_Mo_couldOf_L11 v0 v1 v2 v3 n v4 v6 σ) (q_G (q_rf fo) d m_Mo_couldOf o σ' 11 [some (.ref v0), some (.int v1), some (.int v2), some (.int v3), some (.long v4), none, some (.int v6)] [] σ)
  | 0, v4, v6, σ => J_none
  | n + 1, v4, v6, σ => by
    unfold f_Mo_couldOf_L11
    refine J_bind fun x2 hx2 => ?_
    refine q_J.step (fun g => j_iload rfl rfl (j_aload_n rfl rfl (j_gfi rfl hx2 (g)))) ?_
    refine J_ite (fun h3 => ?_) (fun h3 => ?_)
    · refine J_bind fun x4 hx4 => ?_
      refine J_bind fun x5 hx5 => ?_
      refine J_cl fun x7 σ6 hσ6 => ?_
      refine q_J.step (fun g => j_icmp_f rfl (cc_ge_f h3) (j_aload_n rfl rfl (j_gfr rfl hx4 (j_iload rfl rfl (j_ial rfl hx5 (j_iload_n rfl rfl (j_ineg rfl (j_iload_n rfl rfl (j_s1 [.int x5, .int (-v3), .int v3] [] rfl rfl rfl rfl rfl (t_Mo_within (by omega) hσ6) (g)))))))))) ?_
      refine J_ite (fun h8 => ?_) (fun h8 => ?_)
      · exact q_J.step (fun g => j_if_t rfl (cc_eq_t h8) (j_iinc [some (.ref v0), some (.int v1), some (.int v2), some (.int v3), some (.long v4), none, some (.int (v6 + (1 : Int32)))] (v6 + (1 : Int32)) rfl rfl (by rw [k32_1]) (Or.inr True.intro) rfl (j_goto rfl (g)))) (l_Mo_couldOf_L11 hd v0 v1 v2 v3 hX n v4 (v6 + (1 : Int32)) σ6)
      refine J_bind fun x9 hx9 => ?_
      refine J_bind fun x10 hx10 => ?_
      refine q_J.step (fun g => j_if_f rfl (cc_eq_f h8) (j_iload_n rfl rfl (j_aload_n rfl rfl (j_gfr rfl hx9 (j_iload rfl rfl (j_ial rfl hx10 (j_iadd rfl (g)))))))) ?_
      refine J_ite (fun h11 => ?_) (fun h11 => ?_)
      · exact q_J.step (fun g => j_if_f rfl (cc_ge_f h11) (j_goto rfl (j_iinc [some (.ref v0), some (.int v1), some (.int v2), some (.int v3), some (.long v4), none, some (.int (v6 + (1 : Int32)))] (v6 + (1 : Int32)) rfl rfl (by rw [k32_1]) (Or.inr True.intro) rfl (j_goto rfl (g))))) (l_Mo_couldOf_L11 hd v0 v1 v2 v3 hX n v4 (v6 + (1 : Int32)) σ6)
      refine J_bind fun x12 hx12 => ?_
      refine J_bind fun x13 hx13 => ?_
      refine J_bind fun w14 hw14 => ?_
      refine J_cl fun x16 σ15 hσ15 => ?_
      refine J_bind fun x17 hx17 => ?_
      refine J_bind fun σ18 hσ18 => ?_
      exact q_J.step (fun g => j_if_t rfl (cc_ge_t h11) (j_lload rfl rfl (j_ldc2 (10000 : Int64) rfl kw_10000 (j_aload_n rfl rfl (j_iload_n rfl rfl (j_iload_n rfl rfl (j_aload_n rfl rfl (j_gfr rfl hx12 (j_iload rfl rfl (j_ial rfl hx13 (j_iadd rfl (j_v1 [.ref v0, .int v1, .int (v2 + x13)] [.long (10000 : Int64), .long v4] rfl rfl rfl rfl rfl rfl hw14 (Or.inl rfl) (t_Mo_atAge (by omega) hσ15) (j_i2l rfl (j_lsub rfl (j_lmul rfl (j_lstore [some (.ref v0), some (.int v1), some (.int v2), some (.int v3), some (.long (v4 * ((10000 : Int64) - x16.toInt64))), none, some (.int v6)] rfl rfl (Or.inr rfl) rfl (j_aload_n rfl rfl (j_dup rfl rfl (j_gfl rfl hx17 (j_ldc2 (10000 : Int64) rfl kw_10000 (j_lmul rfl (j_putf rfl rfl rfl rfl hσ18 (j_iinc [some (.ref v0), some (.int v1), some (.int v2), some (.int v3), some (.long (v4 * ((10000 : Int64) - x16.toInt64))), none, some (.int (v6 + (1 : Int32)))] (v6 + (1 : Int32)) rfl rfl (by rw [k32_1]) (Or.inr True.intro) rfl (j_goto rfl (g))))))))))))))))))))))))) (l_Mo_couldOf_L11 hd v0 v1 v2 v3 hX n (v4 * ((10000 : Int64) - x16.toInt64)) (v6 + (1 : Int32)) σ18)
    exact J_some (fun h => j_icmp_t rfl (cc_ge_t h3) (j_weak (l := [some (.ref v0), none, none, none, some (.long v4), none, none]) (And.intro (Or.inr rfl) (And.intro (Or.inl rfl) (And.intro (Or.inl rfl) (And.intro (Or.inl rfl) (And.intro (Or.inr rfl) (And.intro (Or.inr rfl) (And.intro (Or.inl rfl) True.intro))))))) (hX _ _ h)))

def f_Mo_couldOf (v0 : Nat) (v1 : Int32) (v2 : Int32) (v3 : Int32) (σ : q_H) : Option ((Int64) × q_H) := (q_sf σ 12 v0 34 (.long (1 : Int64))).bind fun σ1 => q_sq (f_Mo_couldOf_L11 v0 v1 v2 v3 q_FU (1 : Int64) (0 : Int32) σ1) fun (t19 : Int64) σ20 => (q_gl' (q_gf σ20 12 v0 34)).bind fun x21 => some ((x21 - t19), σ20)
set_option maxRecDepth 100000 in
theorem b_Mo_couldOf {fo : Option Nat} {d : Nat} (hd : 2 ≤ d + 1) {o : q_O} {σ' : q_H} (v0 : Nat) (v1 : Int32) (v2 : Int32) (v3 : Int32) (σ : q_H) : q_J (fun (r : Int64) (σ1 : q_H) => o = .inl (some (.long r)) ∧ σ' = σ1) (f_Mo_couldOf v0 v1 v2 v3 σ) (q_G (q_rf fo) d m_Mo_couldOf o σ' 0 [some (.ref v0), some (.int v1), some (.int v2), some (.int v3), none, none, none] [] σ) := by
  unfold f_Mo_couldOf
  refine J_bind fun σ1 hσ1 => ?_
  refine J_sq (fun (t19 : Int64) (σ20 : q_H) => q_G (q_rf fo) d m_Mo_couldOf o σ' 93 [some (.ref v0), none, none, none, some (.long t19), none, none] [] σ20) (q_J.step (fun g => j_lconst (1 : Int64) rfl kl_1 (j_lstore [some (.ref v0), some (.int v1), some (.int v2), some (.int v3), some (.long (1 : Int64)), none, none] rfl rfl (Or.inr rfl) rfl (j_aload_n rfl rfl (j_lconst (1 : Int64) rfl kl_1 (j_putf rfl rfl rfl rfl hσ1 (j_iconst (0 : Int32) rfl k32_0 (j_istore [some (.ref v0), some (.int v1), some (.int v2), some (.int v3), some (.long (1 : Int64)), none, some (.int (0 : Int32))] rfl rfl (Or.inr True.intro) rfl (g)))))))) (l_Mo_couldOf_L11 hd v0 v1 v2 v3 (fun _ _ h => h) q_FU (1 : Int64) (0 : Int32) σ1)) (fun t19 σ20 => ?_)
  refine J_bind fun x21 hx21 => ?_
  exact J_some (fun h => j_aload_n rfl rfl (j_gfl rfl hx21 (j_lload rfl rfl (j_lsub rfl (j_lret rfl rfl h)))))
theorem t_Mo_couldOf {fo : Option Nat} {d : Nat} (hd : 2 ≤ d) {v0 : Nat} {v1 : Int32} {v2 : Int32} {v3 : Int32} {σ σ1 : q_H} {r : Int64} (h : f_Mo_couldOf v0 v1 v2 v3 σ = some (r, σ1)) : q_Rel (q_rf fo) q_Ms d 244 [.ref v0, .int v1, .int v2, .int v3] σ (.inl (some (.long r))) σ1 := by
  obtain ⟨d, rfl⟩ : ∃ d1, d = d1 + 1 := ⟨d - 1, by omega⟩
  exact q_Rel.of rfl rfl (b_Mo_couldOf hd _ _ _ _ σ _ _ h ⟨rfl, rfl⟩)

def f_Mo_tests (v0 : Nat) (v1 : Int32) (σ : q_H) : Option ((Unit) × q_H) := (q_ob σ 12 v0).bind fun w1 => q_sq (f_Mo_sums v0 v1 σ) fun (_ : Unit) σ2 => (q_gr (q_gf σ2 12 v0 46)).bind fun x4 => (q_gi (q_ga σ2 20 x4 v1)).bind fun x5 => (q_gr (q_gf σ2 12 v0 45)).bind fun x6 => (q_gi (q_ga σ2 20 x6 v1)).bind fun x7 => q_sq (if x7 = (24 : Int32) then ((q_gr (q_gf σ2 12 v0 44)).bind fun x9 => (q_gi (q_ga σ2 20 x9 v1)).bind fun x10 => (q_gr (q_gf σ2 12 v0 46)).bind fun x11 => (q_gi (q_ga σ2 20 x11 v1)).bind fun x12 => if x10 < x12 then (some ((1 : Int32), σ2)) else (some ((0 : Int32), σ2))) else (some (x5, σ2))) fun (t14 : Int32) σ15 => (q_gr (q_gf σ15 12 v0 45)).bind fun x16 => (q_gi (q_ga σ15 20 x16 v1)).bind fun x17 => q_sq (if x17 = (25 : Int32) then ((q_gr (q_gf σ15 12 v0 44)).bind fun x19 => (q_gi (q_ga σ15 20 x19 v1)).bind fun x20 => (q_gr (q_gf σ15 12 v0 46)).bind fun x21 => (q_gi (q_ga σ15 20 x21 v1)).bind fun x22 => if x20 = x22 then (some ((1 : Int32), σ15)) else (some ((0 : Int32), σ15))) else (some (t14, σ15))) fun (t24 : Int32) σ25 => (q_gr (q_gf σ25 12 v0 43)).bind fun x26 => (q_gi (q_ga σ25 20 x26 v1)).bind fun x27 => q_sq (if x27 = (26 : Int32) then ((q_gr (q_gf σ25 12 v0 42)).bind fun x29 => (q_gi (q_ga σ25 20 x29 v1)).bind fun x30 => if x30 = (0 : Int32) then (some ((0 : Int32), σ25)) else (if t24 = (0 : Int32) then (some ((0 : Int32), σ25)) else (some ((1 : Int32), σ25)))) else (some (t24, σ25))) fun (t33 : Int32) σ34 => (q_gr (q_gf σ34 12 v0 43)).bind fun x35 => (q_gi (q_ga σ34 20 x35 v1)).bind fun x36 => q_sq (if x36 = (27 : Int32) then ((q_gr (q_gf σ34 12 v0 42)).bind fun x38 => (q_gi (q_ga σ34 20 x38 v1)).bind fun x39 => if x39 = (0 : Int32) then (if t33 = (0 : Int32) then (some ((0 : Int32), σ34)) else (some ((1 : Int32), σ34))) else (some ((1 : Int32), σ34))) else (some (t33, σ34))) fun (t42 : Int32) σ43 => (q_gr (q_gf σ43 12 v0 42)).bind fun x44 => (q_sa σ43 20 x44 v1 (.int t42)).bind fun σ45 => (q_gr (q_gf σ45 12 v0 45)).bind fun x46 => (q_sa σ45 20 x46 v1 (.int (0 : Int32))).bind fun σ47 => (q_gr (q_gf σ47 12 v0 46)).bind fun x48 => (q_sa σ47 20 x48 v1 (.int (0 : Int32))).bind fun σ49 => (q_gr (q_gf σ49 12 v0 47)).bind fun x50 => (q_sa σ49 20 x50 v1 (.int (20 : Int32))).bind fun σ51 => some ((), σ51)
set_option maxRecDepth 100000 in
theorem b_Mo_tests {fo : Option Nat} {d : Nat} (hd : 2 ≤ d + 1) {o : q_O} {σ' : q_H} (v0 : Nat) (v1 : Int32) (σ : q_H) : q_J (fun (r : Unit) (σ1 : q_H) => o = .inl none ∧ σ' = σ1) (f_Mo_tests v0 v1 σ) (q_G (q_rf fo) d m_Mo_tests o σ' 0 [some (.ref v0), some (.int v1), none] [] σ) := by
  unfold f_Mo_tests
  refine J_bind fun w1 hw1 => ?_
  refine J_cl fun _ σ2 hσ2 => ?_
  refine J_bind fun x4 hx4 => ?_
  refine J_bind fun x5 hx5 => ?_
  refine J_bind fun x6 hx6 => ?_
  refine J_bind fun x7 hx7 => ?_
  refine q_J.step (fun g => j_aload_n rfl rfl (j_iload_n rfl rfl (j_v0 [.ref v0, .int v1] [] rfl rfl rfl rfl rfl rfl hw1 (Or.inl rfl) (t_Mo_sums (by omega) hσ2) (j_aload_n rfl rfl (j_gfr rfl hx4 (j_iload_n rfl rfl (j_ial rfl hx5 (j_istore_n [some (.ref v0), some (.int v1), some (.int x5)] rfl rfl (Or.inr rfl) rfl (j_aload_n rfl rfl (j_gfr rfl hx6 (j_iload_n rfl rfl (j_ial rfl hx7 (j_bipush (24 : Int32) rfl kb_24 (g)))))))))))))) ?_
  refine J_sq (fun (t14 : Int32) (σ15 : q_H) => q_G (q_rf fo) d m_Mo_tests o σ' 44 [some (.ref v0), some (.int v1), some (.int t14)] [] σ15) ?_ (fun t14 σ15 => ?_)
  · refine J_ite (fun h8 => ?_) (fun h8 => ?_)
    · refine J_bind fun x9 hx9 => ?_
      refine J_bind fun x10 hx10 => ?_
      refine J_bind fun x11 hx11 => ?_
      refine J_bind fun x12 hx12 => ?_
      refine q_J.step (fun g => j_icmp_f rfl (cc_ne_f h8) (j_aload_n rfl rfl (j_gfr rfl hx9 (j_iload_n rfl rfl (j_ial rfl hx10 (j_aload_n rfl rfl (j_gfr rfl hx11 (j_iload_n rfl rfl (j_ial rfl hx12 (g)))))))))) ?_
      refine J_ite (fun h13 => ?_) (fun h13 => ?_)
      · exact J_some (fun h => j_icmp_f rfl (cc_ge_f h13) (j_iconst (1 : Int32) rfl k32_1 (j_goto rfl (j_istore_n [some (.ref v0), some (.int v1), some (.int (1 : Int32))] rfl rfl (Or.inr rfl) rfl (h)))))
      exact J_some (fun h => j_icmp_t rfl (cc_ge_t h13) (j_iconst (0 : Int32) rfl k32_0 (j_istore_n [some (.ref v0), some (.int v1), some (.int (0 : Int32))] rfl rfl (Or.inr rfl) rfl (h))))
    exact J_some (fun h => j_icmp_t rfl (cc_ne_t h8) (h))
  refine J_bind fun x16 hx16 => ?_
  refine J_bind fun x17 hx17 => ?_
  refine q_J.step (fun g => j_aload_n rfl rfl (j_gfr rfl hx16 (j_iload_n rfl rfl (j_ial rfl hx17 (j_bipush (25 : Int32) rfl kb_25 (g)))))) ?_
  refine J_sq (fun (t24 : Int32) (σ25 : q_H) => q_G (q_rf fo) d m_Mo_tests o σ' 76 [some (.ref v0), some (.int v1), some (.int t24)] [] σ25) ?_ (fun t24 σ25 => ?_)
  · refine J_ite (fun h18 => ?_) (fun h18 => ?_)
    · refine J_bind fun x19 hx19 => ?_
      refine J_bind fun x20 hx20 => ?_
      refine J_bind fun x21 hx21 => ?_
      refine J_bind fun x22 hx22 => ?_
      refine q_J.step (fun g => j_icmp_f rfl (cc_ne_f h18) (j_aload_n rfl rfl (j_gfr rfl hx19 (j_iload_n rfl rfl (j_ial rfl hx20 (j_aload_n rfl rfl (j_gfr rfl hx21 (j_iload_n rfl rfl (j_ial rfl hx22 (g)))))))))) ?_
      refine J_ite (fun h23 => ?_) (fun h23 => ?_)
      · exact J_some (fun h => j_icmp_f rfl (cc_ne_f h23) (j_iconst (1 : Int32) rfl k32_1 (j_goto rfl (j_istore_n [some (.ref v0), some (.int v1), some (.int (1 : Int32))] rfl rfl (Or.inr rfl) rfl (h)))))
      exact J_some (fun h => j_icmp_t rfl (cc_ne_t h23) (j_iconst (0 : Int32) rfl k32_0 (j_istore_n [some (.ref v0), some (.int v1), some (.int (0 : Int32))] rfl rfl (Or.inr rfl) rfl (h))))
    exact J_some (fun h => j_icmp_t rfl (cc_ne_t h18) (h))
  refine J_bind fun x26 hx26 => ?_
  refine J_bind fun x27 hx27 => ?_
  refine q_J.step (fun g => j_aload_n rfl rfl (j_gfr rfl hx26 (j_iload_n rfl rfl (j_ial rfl hx27 (j_bipush (26 : Int32) rfl kb_26 (g)))))) ?_
  refine J_sq (fun (t33 : Int32) (σ34 : q_H) => q_G (q_rf fo) d m_Mo_tests o σ' 106 [some (.ref v0), some (.int v1), some (.int t33)] [] σ34) ?_ (fun t33 σ34 => ?_)
  · refine J_ite (fun h28 => ?_) (fun h28 => ?_)
    · refine J_bind fun x29 hx29 => ?_
      refine J_bind fun x30 hx30 => ?_
      refine q_J.step (fun g => j_icmp_f rfl (cc_ne_f h28) (j_aload_n rfl rfl (j_gfr rfl hx29 (j_iload_n rfl rfl (j_ial rfl hx30 (g)))))) ?_
      refine J_ite (fun h31 => ?_) (fun h31 => ?_)
      · exact J_some (fun h => j_if_t rfl (cc_eq_t h31) (j_iconst (0 : Int32) rfl k32_0 (j_istore_n [some (.ref v0), some (.int v1), some (.int (0 : Int32))] rfl rfl (Or.inr rfl) rfl (h))))
      refine q_J.step (fun g => j_if_f rfl (cc_eq_f h31) (j_iload_n rfl rfl (g))) ?_
      refine J_ite (fun h32 => ?_) (fun h32 => ?_)
      · exact J_some (fun h => j_if_t rfl (cc_eq_t h32) (j_iconst (0 : Int32) rfl k32_0 (j_istore_n [some (.ref v0), some (.int v1), some (.int (0 : Int32))] rfl rfl (Or.inr rfl) rfl (h))))
      exact J_some (fun h => j_if_f rfl (cc_eq_f h32) (j_iconst (1 : Int32) rfl k32_1 (j_goto rfl (j_istore_n [some (.ref v0), some (.int v1), some (.int (1 : Int32))] rfl rfl (Or.inr rfl) rfl (h)))))
    exact J_some (fun h => j_icmp_t rfl (cc_ne_t h28) (h))
  refine J_bind fun x35 hx35 => ?_
  refine J_bind fun x36 hx36 => ?_
  refine q_J.step (fun g => j_aload_n rfl rfl (j_gfr rfl hx35 (j_iload_n rfl rfl (j_ial rfl hx36 (j_bipush (27 : Int32) rfl kb_27 (g)))))) ?_
  refine J_sq (fun (t42 : Int32) (σ43 : q_H) => q_G (q_rf fo) d m_Mo_tests o σ' 136 [some (.ref v0), some (.int v1), some (.int t42)] [] σ43) ?_ (fun t42 σ43 => ?_)
  · refine J_ite (fun h37 => ?_) (fun h37 => ?_)
    · refine J_bind fun x38 hx38 => ?_
      refine J_bind fun x39 hx39 => ?_
      refine q_J.step (fun g => j_icmp_f rfl (cc_ne_f h37) (j_aload_n rfl rfl (j_gfr rfl hx38 (j_iload_n rfl rfl (j_ial rfl hx39 (g)))))) ?_
      refine J_ite (fun h40 => ?_) (fun h40 => ?_)
      · refine q_J.step (fun g => j_if_f rfl (cc_ne_f h40) (j_iload_n rfl rfl (g))) ?_
        refine J_ite (fun h41 => ?_) (fun h41 => ?_)
        · exact J_some (fun h => j_if_t rfl (cc_eq_t h41) (j_iconst (0 : Int32) rfl k32_0 (j_istore_n [some (.ref v0), some (.int v1), some (.int (0 : Int32))] rfl rfl (Or.inr rfl) rfl (h))))
        exact J_some (fun h => j_if_f rfl (cc_eq_f h41) (j_iconst (1 : Int32) rfl k32_1 (j_goto rfl (j_istore_n [some (.ref v0), some (.int v1), some (.int (1 : Int32))] rfl rfl (Or.inr rfl) rfl (h)))))
      exact J_some (fun h => j_if_t rfl (cc_ne_t h40) (j_iconst (1 : Int32) rfl k32_1 (j_goto rfl (j_istore_n [some (.ref v0), some (.int v1), some (.int (1 : Int32))] rfl rfl (Or.inr rfl) rfl (h)))))
    exact J_some (fun h => j_icmp_t rfl (cc_ne_t h37) (h))
  refine J_bind fun x44 hx44 => ?_
  refine J_bind fun σ45 hσ45 => ?_
  refine J_bind fun x46 hx46 => ?_
  refine J_bind fun σ47 hσ47 => ?_
  refine J_bind fun x48 hx48 => ?_
  refine J_bind fun σ49 hσ49 => ?_
  refine J_bind fun x50 hx50 => ?_
  refine J_bind fun σ51 hσ51 => ?_
  exact J_some (fun h => j_aload_n rfl rfl (j_gfr rfl hx44 (j_iload_n rfl rfl (j_iload_n rfl rfl (j_ias rfl hσ45 (j_aload_n rfl rfl (j_gfr rfl hx46 (j_iload_n rfl rfl (j_iconst (0 : Int32) rfl k32_0 (j_ias rfl hσ47 (j_aload_n rfl rfl (j_gfr rfl hx48 (j_iload_n rfl rfl (j_iconst (0 : Int32) rfl k32_0 (j_ias rfl hσ49 (j_aload_n rfl rfl (j_gfr rfl hx50 (j_iload_n rfl rfl (j_bipush (20 : Int32) rfl kb_20 (j_ias rfl hσ51 (j_vret rfl rfl h)))))))))))))))))))))
theorem t_Mo_tests {fo : Option Nat} {d : Nat} (hd : 2 ≤ d) {v0 : Nat} {v1 : Int32} {σ σ1 : q_H} {r : Unit} (h : f_Mo_tests v0 v1 σ = some (r, σ1)) : q_Rel (q_rf fo) q_Ms d 258 [.ref v0, .int v1] σ (.inl none) σ1 := by
  obtain ⟨d, rfl⟩ : ∃ d1, d = d1 + 1 := ⟨d - 1, by omega⟩
  exact q_Rel.of rfl rfl (b_Mo_tests hd _ _ σ _ _ h ⟨rfl, rfl⟩)

def f_Mo_isWorld (v0 : Int32) (v1 : Int32) (v2 : Int32) (v3 : Int32) (σ : q_H) : Option ((Int32) × q_H) := q_sq (f_Mo_within v0 (1 : Int32) (40 : Int32) σ) fun x2 σ1 => if x2 = (0 : Int32) then (some ((0 : Int32), σ1)) else (q_sq (f_Mo_isTable v1 σ1) fun x5 σ4 => if x5 = (0 : Int32) then (some ((0 : Int32), σ4)) else (q_sq (f_Mo_within v2 (0 : Int32) (30 : Int32) σ4) fun x8 σ7 => if x8 = (0 : Int32) then (some ((0 : Int32), σ7)) else (q_sq (f_Mo_within v3 (0 : Int32) (10 : Int32) σ7) fun x11 σ10 => if x11 = (0 : Int32) then (some ((0 : Int32), σ10)) else (some ((1 : Int32), σ10)))))
set_option maxRecDepth 100000 in
theorem b_Mo_isWorld {fo : Option Nat} {d : Nat} (hd : 2 ≤ d + 1) {o : q_O} {σ' : q_H} (v0 : Int32) (v1 : Int32) (v2 : Int32) (v3 : Int32) (σ : q_H) : q_J (fun (r : Int32) (σ1 : q_H) => o = .inl (some (.int r)) ∧ σ' = σ1) (f_Mo_isWorld v0 v1 v2 v3 σ) (q_G (q_rf fo) d m_Mo_isWorld o σ' 0 [some (.int v0), some (.int v1), some (.int v2), some (.int v3)] [] σ) := by
  unfold f_Mo_isWorld
  refine J_cl fun x2 σ1 hσ1 => ?_
  refine q_J.step (fun g => j_iload_n rfl rfl (j_iconst (1 : Int32) rfl k32_1 (j_bipush (40 : Int32) rfl kb_40 (j_s1 [.int v0, .int (1 : Int32), .int (40 : Int32)] [] rfl rfl rfl rfl rfl (t_Mo_within (by omega) hσ1) (g))))) ?_
  refine J_ite (fun h3 => ?_) (fun h3 => ?_)
  · exact J_some (fun h => j_if_t rfl (cc_eq_t h3) (j_iconst (0 : Int32) rfl k32_0 (j_iret rfl (q_zr (Or.inl rfl)) h)))
  refine J_cl fun x5 σ4 hσ4 => ?_
  refine q_J.step (fun g => j_if_f rfl (cc_eq_f h3) (j_iload_n rfl rfl (j_s1 [.int v1] [] rfl rfl rfl rfl rfl (t_Mo_isTable (by omega) hσ4) (g)))) ?_
  refine J_ite (fun h6 => ?_) (fun h6 => ?_)
  · exact J_some (fun h => j_if_t rfl (cc_eq_t h6) (j_iconst (0 : Int32) rfl k32_0 (j_iret rfl (q_zr (Or.inl rfl)) h)))
  refine J_cl fun x8 σ7 hσ7 => ?_
  refine q_J.step (fun g => j_if_f rfl (cc_eq_f h6) (j_iload_n rfl rfl (j_iconst (0 : Int32) rfl k32_0 (j_bipush (30 : Int32) rfl kb_30 (j_s1 [.int v2, .int (0 : Int32), .int (30 : Int32)] [] rfl rfl rfl rfl rfl (t_Mo_within (by omega) hσ7) (g)))))) ?_
  refine J_ite (fun h9 => ?_) (fun h9 => ?_)
  · exact J_some (fun h => j_if_t rfl (cc_eq_t h9) (j_iconst (0 : Int32) rfl k32_0 (j_iret rfl (q_zr (Or.inl rfl)) h)))
  refine J_cl fun x11 σ10 hσ10 => ?_
  refine q_J.step (fun g => j_if_f rfl (cc_eq_f h9) (j_iload_n rfl rfl (j_iconst (0 : Int32) rfl k32_0 (j_bipush (10 : Int32) rfl kb_10 (j_s1 [.int v3, .int (0 : Int32), .int (10 : Int32)] [] rfl rfl rfl rfl rfl (t_Mo_within (by omega) hσ10) (g)))))) ?_
  refine J_ite (fun h12 => ?_) (fun h12 => ?_)
  · exact J_some (fun h => j_if_t rfl (cc_eq_t h12) (j_iconst (0 : Int32) rfl k32_0 (j_iret rfl (q_zr (Or.inl rfl)) h)))
  exact J_some (fun h => j_if_f rfl (cc_eq_f h12) (j_iconst (1 : Int32) rfl k32_1 (j_goto rfl (j_iret rfl (q_zr (Or.inr rfl)) h))))
theorem t_Mo_isWorld {fo : Option Nat} {d : Nat} (hd : 2 ≤ d) {v0 : Int32} {v1 : Int32} {v2 : Int32} {v3 : Int32} {σ σ1 : q_H} {r : Int32} (h : f_Mo_isWorld v0 v1 v2 v3 σ = some (r, σ1)) : q_Rel (q_rf fo) q_Ms d 264 [.int v0, .int v1, .int v2, .int v3] σ (.inl (some (.int r))) σ1 := by
  obtain ⟨d, rfl⟩ : ∃ d1, d = d1 + 1 := ⟨d - 1, by omega⟩
  exact q_Rel.of rfl rfl (b_Mo_isWorld hd _ _ _ _ σ _ _ h ⟨rfl, rfl⟩)

def f_Mo_weds_L52 (v0 : Nat) (v1 : Int32) (v2 : Int32) (v3 : Int32) (v4 : Int32) : Nat → Int32 → Int32 → q_H → Option ((Int32) × q_H)
  | 0, _, _, _ => none
  | n + 1, v5, v6, σ => if v6 < (0 : Int32) then (some (v5, σ)) else ((q_gr (q_gf σ 12 v0 56)).bind fun x12 => (q_gi (q_ga σ 22 x12 v6)).bind fun x13 => if x13 = (0 : Int32) then (f_Mo_weds_L52 v0 v1 v2 v3 v4 n v5 (v6 + (-1 : Int32)) σ) else ((q_gr (q_gf σ 12 v0 57)).bind fun x15 => (q_gi (q_ga σ 22 x15 v6)).bind fun x16 => if x16 = (0 : Int32) then (f_Mo_weds_L52 v0 v1 v2 v3 v4 n v5 (v6 + (-1 : Int32)) σ) else ((q_gr (q_gf σ 12 v0 55)).bind fun x18 => (q_gi (q_ga σ 20 x18 v6)).bind fun x19 => if x19 < (12 : Int32) then (f_Mo_weds_L52 v0 v1 v2 v3 v4 n v5 (v6 + (-1 : Int32)) σ) else ((q_gr (q_gf σ 12 v0 55)).bind fun x21 => (q_gi (q_ga σ 20 x21 v6)).bind fun x22 => (q_gr (q_gf σ 12 v0 55)).bind fun x23 => (q_gi (q_ga σ 20 x23 v4)).bind fun x24 => q_sq (f_Mo_within (x22 - x24) (-v2) v2 σ) fun x26 σ25 => if x26 = (0 : Int32) then (f_Mo_weds_L52 v0 v1 v2 v3 v4 n v5 (v6 + (-1 : Int32)) σ25) else (f_Mo_weds_L52 v0 v1 v2 v3 v4 n v6 (v6 + (-1 : Int32)) σ25)))))
set_option maxRecDepth 100000 in
theorem l_Mo_weds_L52 {fo : Option Nat} {d : Nat} (hd : 2 ≤ d + 1) {o : q_O} {σ' : q_H} {E : (Int32) → q_H → Prop} (v0 : Nat) (v1 : Int32) (v2 : Int32) (v3 : Int32) (v4 : Int32) (hX : ∀ (t : Int32) σ1, E (t) σ1 → q_G (q_rf fo) d m_Mo_weds o σ' 123 [some (.ref v0), some (.int v1), some (.int v2), some (.int v3), some (.int v4), some (.int t), none] [] σ1)  : ∀ (n : Nat) (v5 : Int32) (v6 : Int32) (σ : q_H), q_J E (f_Mo_weds_L52 v0 v1 v2 v3 v4 n v5 v6 σ) (q_G (q_rf fo) d m_Mo_weds o σ' 52 [some (.ref v0), some (.int v1), some (.int v2), some (.int v3), some (.int v4), some (.int v5), some (.int v6)] [] σ)
  | 0, v5, v6, σ => J_none
  | n + 1, v5, v6, σ => by
    unfold f_Mo_weds_L52
    refine q_J.step (fun g => j_iload rfl rfl (g)) ?_
    refine J_ite (fun h11 => ?_) (fun h11 => ?_)
    · exact J_some (fun h => j_if_t rfl (cc_lt_t h11) (j_weak (l := [some (.ref v0), some (.int v1), some (.int v2), some (.int v3), some (.int v4), some (.int v5), none]) (And.intro (Or.inr rfl) (And.intro (Or.inr rfl) (And.intro (Or.inr rfl) (And.intro (Or.inr rfl) (And.intro (Or.inr rfl) (And.intro (Or.inr rfl) (And.intro (Or.inl rfl) True.intro))))))) (hX _ _ h)))
    refine J_bind fun x12 hx12 => ?_
    refine J_bind fun x13 hx13 => ?_
    refine q_J.step (fun g => j_if_f rfl (cc_lt_f h11) (j_aload_n rfl rfl (j_gfr rfl hx12 (j_iload rfl rfl (j_bal rfl rfl hx13 (g)))))) ?_
    refine J_ite (fun h14 => ?_) (fun h14 => ?_)
    · exact q_J.step (fun g => j_if_t rfl (cc_eq_t h14) (j_iinc [some (.ref v0), some (.int v1), some (.int v2), some (.int v3), some (.int v4), some (.int v5), some (.int (v6 + (-1 : Int32)))] (v6 + (-1 : Int32)) rfl rfl (by rw [k32_m1]) (Or.inr rfl) rfl (j_goto rfl (g)))) (l_Mo_weds_L52 hd v0 v1 v2 v3 v4 hX n v5 (v6 + (-1 : Int32)) σ)
    refine J_bind fun x15 hx15 => ?_
    refine J_bind fun x16 hx16 => ?_
    refine q_J.step (fun g => j_if_f rfl (cc_eq_f h14) (j_aload_n rfl rfl (j_gfr rfl hx15 (j_iload rfl rfl (j_bal rfl rfl hx16 (g)))))) ?_
    refine J_ite (fun h17 => ?_) (fun h17 => ?_)
    · exact q_J.step (fun g => j_if_t rfl (cc_eq_t h17) (j_iinc [some (.ref v0), some (.int v1), some (.int v2), some (.int v3), some (.int v4), some (.int v5), some (.int (v6 + (-1 : Int32)))] (v6 + (-1 : Int32)) rfl rfl (by rw [k32_m1]) (Or.inr rfl) rfl (j_goto rfl (g)))) (l_Mo_weds_L52 hd v0 v1 v2 v3 v4 hX n v5 (v6 + (-1 : Int32)) σ)
    refine J_bind fun x18 hx18 => ?_
    refine J_bind fun x19 hx19 => ?_
    refine q_J.step (fun g => j_if_f rfl (cc_eq_f h17) (j_aload_n rfl rfl (j_gfr rfl hx18 (j_iload rfl rfl (j_ial rfl hx19 (j_bipush (12 : Int32) rfl kb_12 (g))))))) ?_
    refine J_ite (fun h20 => ?_) (fun h20 => ?_)
    · exact q_J.step (fun g => j_icmp_t rfl (cc_lt_t h20) (j_iinc [some (.ref v0), some (.int v1), some (.int v2), some (.int v3), some (.int v4), some (.int v5), some (.int (v6 + (-1 : Int32)))] (v6 + (-1 : Int32)) rfl rfl (by rw [k32_m1]) (Or.inr rfl) rfl (j_goto rfl (g)))) (l_Mo_weds_L52 hd v0 v1 v2 v3 v4 hX n v5 (v6 + (-1 : Int32)) σ)
    refine J_bind fun x21 hx21 => ?_
    refine J_bind fun x22 hx22 => ?_
    refine J_bind fun x23 hx23 => ?_
    refine J_bind fun x24 hx24 => ?_
    refine J_cl fun x26 σ25 hσ25 => ?_
    refine q_J.step (fun g => j_icmp_f rfl (cc_lt_f h20) (j_aload_n rfl rfl (j_gfr rfl hx21 (j_iload rfl rfl (j_ial rfl hx22 (j_aload_n rfl rfl (j_gfr rfl hx23 (j_iload rfl rfl (j_ial rfl hx24 (j_isub rfl (j_iload_n rfl rfl (j_ineg rfl (j_iload_n rfl rfl (j_s1 [.int (x22 - x24), .int (-v2), .int v2] [] rfl rfl rfl rfl rfl (t_Mo_within (by omega) hσ25) (g))))))))))))))) ?_
    refine J_ite (fun h27 => ?_) (fun h27 => ?_)
    · exact q_J.step (fun g => j_if_t rfl (cc_eq_t h27) (j_iinc [some (.ref v0), some (.int v1), some (.int v2), some (.int v3), some (.int v4), some (.int v5), some (.int (v6 + (-1 : Int32)))] (v6 + (-1 : Int32)) rfl rfl (by rw [k32_m1]) (Or.inr rfl) rfl (j_goto rfl (g)))) (l_Mo_weds_L52 hd v0 v1 v2 v3 v4 hX n v5 (v6 + (-1 : Int32)) σ25)
    exact q_J.step (fun g => j_if_f rfl (cc_eq_f h27) (j_iload rfl rfl (j_istore [some (.ref v0), some (.int v1), some (.int v2), some (.int v3), some (.int v4), some (.int v6), some (.int v6)] rfl rfl (Or.inr rfl) rfl (j_iinc [some (.ref v0), some (.int v1), some (.int v2), some (.int v3), some (.int v4), some (.int v6), some (.int (v6 + (-1 : Int32)))] (v6 + (-1 : Int32)) rfl rfl (by rw [k32_m1]) (Or.inr rfl) rfl (j_goto rfl (g)))))) (l_Mo_weds_L52 hd v0 v1 v2 v3 v4 hX n v6 (v6 + (-1 : Int32)) σ25)

def f_Mo_weds_L3 (v0 : Nat) (v1 : Int32) (v2 : Int32) (v3 : Int32) : Nat → Int32 → q_H → Option ((Unit) × q_H)
  | 0, _, _ => none
  | n + 1, v4, σ => if v4 < v1 then ((q_gr (q_gf σ 12 v0 56)).bind fun x2 => (q_gi (q_ga σ 22 x2 v4)).bind fun x3 => if x3 = (0 : Int32) then ((q_gr (q_gf σ 12 v0 57)).bind fun x5 => (q_gi (q_ga σ 22 x5 v4)).bind fun x6 => if x6 = (0 : Int32) then (f_Mo_weds_L3 v0 v1 v2 v3 n (v4 + (1 : Int32)) σ) else ((q_gr (q_gf σ 12 v0 55)).bind fun x8 => (q_gi (q_ga σ 20 x8 v4)).bind fun x9 => if x9 < (15 : Int32) then (f_Mo_weds_L3 v0 v1 v2 v3 n (v4 + (1 : Int32)) σ) else (q_sq (f_Mo_weds_L52 v0 v1 v2 v3 v4 q_FU (-1 : Int32) (v1 - (1 : Int32)) σ) fun (t28 : Int32) σ29 => (q_gi (q_gf σ29 12 v0 53)).bind fun x30 => (q_sf σ29 12 v0 53 (.int (x30 + (1 : Int32)))).bind fun σ31 => if t28 < (0 : Int32) then (f_Mo_weds_L3 v0 v1 v2 v3 n (v4 + (1 : Int32)) σ31) else ((q_ob σ31 12 v0).bind fun w33 => q_sq (f_Mo_draws v0 (10 : Int32) σ31) fun x35 σ34 => if x35 < v3 then ((q_gr (q_gf σ34 12 v0 57)).bind fun x37 => (q_sa σ34 22 x37 t28 (.int (0 : Int32))).bind fun σ38 => (q_gi (q_gf σ38 12 v0 54)).bind fun x39 => (q_sf σ38 12 v0 54 (.int (x39 + (1 : Int32)))).bind fun σ40 => f_Mo_weds_L3 v0 v1 v2 v3 n (v4 + (1 : Int32)) σ40) else (f_Mo_weds_L3 v0 v1 v2 v3 n (v4 + (1 : Int32)) σ34))))) else (f_Mo_weds_L3 v0 v1 v2 v3 n (v4 + (1 : Int32)) σ)) else (some ((), σ))
set_option maxRecDepth 100000 in
theorem l_Mo_weds_L3 {fo : Option Nat} {d : Nat} (hd : 2 ≤ d + 1) {o : q_O} {σ' : q_H} {E : (Unit) → q_H → Prop} (v0 : Nat) (v1 : Int32) (v2 : Int32) (v3 : Int32) (hX : ∀ (t : Unit) σ1, E (t) σ1 → q_G (q_rf fo) d m_Mo_weds o σ' 175 [none, none, none, none, none, none, none] [] σ1)  : ∀ (n : Nat) (v4 : Int32) (σ : q_H), q_J E (f_Mo_weds_L3 v0 v1 v2 v3 n v4 σ) (q_G (q_rf fo) d m_Mo_weds o σ' 3 [some (.ref v0), some (.int v1), some (.int v2), some (.int v3), some (.int v4), none, none] [] σ)
  | 0, v4, σ => J_none
  | n + 1, v4, σ => by
    unfold f_Mo_weds_L3
    refine q_J.step (fun g => j_iload rfl rfl (j_iload_n rfl rfl (g))) ?_
    refine J_ite (fun h1 => ?_) (fun h1 => ?_)
    · refine J_bind fun x2 hx2 => ?_
      refine J_bind fun x3 hx3 => ?_
      refine q_J.step (fun g => j_icmp_f rfl (cc_ge_f h1) (j_aload_n rfl rfl (j_gfr rfl hx2 (j_iload rfl rfl (j_bal rfl rfl hx3 (g)))))) ?_
      refine J_ite (fun h4 => ?_) (fun h4 => ?_)
      · refine J_bind fun x5 hx5 => ?_
        refine J_bind fun x6 hx6 => ?_
        refine q_J.step (fun g => j_if_f rfl (cc_ne_f h4) (j_aload_n rfl rfl (j_gfr rfl hx5 (j_iload rfl rfl (j_bal rfl rfl hx6 (g)))))) ?_
        refine J_ite (fun h7 => ?_) (fun h7 => ?_)
        · exact q_J.step (fun g => j_if_t rfl (cc_eq_t h7) (j_iinc [some (.ref v0), some (.int v1), some (.int v2), some (.int v3), some (.int (v4 + (1 : Int32))), none, none] (v4 + (1 : Int32)) rfl rfl (by rw [k32_1]) (Or.inr rfl) rfl (j_goto rfl (g)))) (l_Mo_weds_L3 hd v0 v1 v2 v3 hX n (v4 + (1 : Int32)) σ)
        refine J_bind fun x8 hx8 => ?_
        refine J_bind fun x9 hx9 => ?_
        refine q_J.step (fun g => j_if_f rfl (cc_eq_f h7) (j_aload_n rfl rfl (j_gfr rfl hx8 (j_iload rfl rfl (j_ial rfl hx9 (j_bipush (15 : Int32) rfl kb_15 (g))))))) ?_
        refine J_ite (fun h10 => ?_) (fun h10 => ?_)
        · exact q_J.step (fun g => j_icmp_f rfl (cc_ge_f h10) (j_goto rfl (j_iinc [some (.ref v0), some (.int v1), some (.int v2), some (.int v3), some (.int (v4 + (1 : Int32))), none, none] (v4 + (1 : Int32)) rfl rfl (by rw [k32_1]) (Or.inr rfl) rfl (j_goto rfl (g))))) (l_Mo_weds_L3 hd v0 v1 v2 v3 hX n (v4 + (1 : Int32)) σ)
        refine J_sq (fun (t28 : Int32) (σ29 : q_H) => q_G (q_rf fo) d m_Mo_weds o σ' 123 [some (.ref v0), some (.int v1), some (.int v2), some (.int v3), some (.int v4), some (.int t28), none] [] σ29) (q_J.step (fun g => j_icmp_t rfl (cc_ge_t h10) (j_iconst (-1 : Int32) rfl k32_m1 (j_istore [some (.ref v0), some (.int v1), some (.int v2), some (.int v3), some (.int v4), some (.int (-1 : Int32)), none] rfl rfl (Or.inr rfl) rfl (j_iload_n rfl rfl (j_iconst (1 : Int32) rfl k32_1 (j_isub rfl (j_istore [some (.ref v0), some (.int v1), some (.int v2), some (.int v3), some (.int v4), some (.int (-1 : Int32)), some (.int (v1 - (1 : Int32)))] rfl rfl (Or.inr rfl) rfl (g)))))))) (l_Mo_weds_L52 hd v0 v1 v2 v3 v4 (fun _ _ h => h) q_FU (-1 : Int32) (v1 - (1 : Int32)) σ)) (fun t28 σ29 => ?_)
        refine J_bind fun x30 hx30 => ?_
        refine J_bind fun σ31 hσ31 => ?_
        refine q_J.step (fun g => j_aload_n rfl rfl (j_dup rfl rfl (j_gfi rfl hx30 (j_iconst (1 : Int32) rfl k32_1 (j_iadd rfl (j_putf rfl rfl rfl rfl hσ31 (j_iload rfl rfl (g)))))))) ?_
        refine J_ite (fun h32 => ?_) (fun h32 => ?_)
        · exact q_J.step (fun g => j_if_t rfl (cc_lt_t h32) (j_iinc [some (.ref v0), some (.int v1), some (.int v2), some (.int v3), some (.int (v4 + (1 : Int32))), some (.int t28), none] (v4 + (1 : Int32)) rfl rfl (by rw [k32_1]) (Or.inr rfl) rfl (j_goto rfl (j_weak (l := [some (.ref v0), some (.int v1), some (.int v2), some (.int v3), some (.int (v4 + (1 : Int32))), none, none]) (And.intro (Or.inr rfl) (And.intro (Or.inr rfl) (And.intro (Or.inr rfl) (And.intro (Or.inr rfl) (And.intro (Or.inr rfl) (And.intro (Or.inl rfl) (And.intro (Or.inr rfl) True.intro))))))) (g))))) (l_Mo_weds_L3 hd v0 v1 v2 v3 hX n (v4 + (1 : Int32)) σ31)
        refine J_bind fun w33 hw33 => ?_
        refine J_cl fun x35 σ34 hσ34 => ?_
        refine q_J.step (fun g => j_if_f rfl (cc_lt_f h32) (j_aload_n rfl rfl (j_bipush (10 : Int32) rfl kb_10 (j_v1 [.ref v0, .int (10 : Int32)] [] rfl rfl rfl rfl rfl rfl hw33 (Or.inl rfl) (t_Mo_draws (by omega) hσ34) (j_iload_n rfl rfl (g)))))) ?_
        refine J_ite (fun h36 => ?_) (fun h36 => ?_)
        · refine J_bind fun x37 hx37 => ?_
          refine J_bind fun σ38 hσ38 => ?_
          refine J_bind fun x39 hx39 => ?_
          refine J_bind fun σ40 hσ40 => ?_
          exact q_J.step (fun g => j_icmp_t rfl (cc_lt_t h36) (j_aload_n rfl rfl (j_gfr rfl hx37 (j_iload rfl rfl (j_iconst (0 : Int32) rfl k32_0 (j_bas rfl (by decide) hσ38 (j_aload_n rfl rfl (j_dup rfl rfl (j_gfi rfl hx39 (j_iconst (1 : Int32) rfl k32_1 (j_iadd rfl (j_putf rfl rfl rfl rfl hσ40 (j_iinc [some (.ref v0), some (.int v1), some (.int v2), some (.int v3), some (.int (v4 + (1 : Int32))), some (.int t28), none] (v4 + (1 : Int32)) rfl rfl (by rw [k32_1]) (Or.inr rfl) rfl (j_goto rfl (j_weak (l := [some (.ref v0), some (.int v1), some (.int v2), some (.int v3), some (.int (v4 + (1 : Int32))), none, none]) (And.intro (Or.inr rfl) (And.intro (Or.inr rfl) (And.intro (Or.inr rfl) (And.intro (Or.inr rfl) (And.intro (Or.inr rfl) (And.intro (Or.inl rfl) (And.intro (Or.inr rfl) True.intro))))))) (g)))))))))))))))) (l_Mo_weds_L3 hd v0 v1 v2 v3 hX n (v4 + (1 : Int32)) σ40)
        exact q_J.step (fun g => j_icmp_f rfl (cc_lt_f h36) (j_goto rfl (j_iinc [some (.ref v0), some (.int v1), some (.int v2), some (.int v3), some (.int (v4 + (1 : Int32))), some (.int t28), none] (v4 + (1 : Int32)) rfl rfl (by rw [k32_1]) (Or.inr rfl) rfl (j_goto rfl (j_weak (l := [some (.ref v0), some (.int v1), some (.int v2), some (.int v3), some (.int (v4 + (1 : Int32))), none, none]) (And.intro (Or.inr rfl) (And.intro (Or.inr rfl) (And.intro (Or.inr rfl) (And.intro (Or.inr rfl) (And.intro (Or.inr rfl) (And.intro (Or.inl rfl) (And.intro (Or.inr rfl) True.intro))))))) (g)))))) (l_Mo_weds_L3 hd v0 v1 v2 v3 hX n (v4 + (1 : Int32)) σ34)
      exact q_J.step (fun g => j_if_t rfl (cc_ne_t h4) (j_iinc [some (.ref v0), some (.int v1), some (.int v2), some (.int v3), some (.int (v4 + (1 : Int32))), none, none] (v4 + (1 : Int32)) rfl rfl (by rw [k32_1]) (Or.inr rfl) rfl (j_goto rfl (g)))) (l_Mo_weds_L3 hd v0 v1 v2 v3 hX n (v4 + (1 : Int32)) σ)
    exact J_some (fun h => j_icmp_t rfl (cc_ge_t h1) (j_weak (l := [none, none, none, none, none, none, none]) (And.intro (Or.inl rfl) (And.intro (Or.inl rfl) (And.intro (Or.inl rfl) (And.intro (Or.inl rfl) (And.intro (Or.inl rfl) (And.intro (Or.inr rfl) (And.intro (Or.inr rfl) True.intro))))))) (hX _ _ h)))

def f_Mo_weds (v0 : Nat) (v1 : Int32) (v2 : Int32) (v3 : Int32) (σ : q_H) : Option ((Unit) × q_H) := q_sq (f_Mo_weds_L3 v0 v1 v2 v3 q_FU (0 : Int32) σ) fun (t41 : Unit) σ42 => some ((), σ42)
set_option maxRecDepth 100000 in
theorem b_Mo_weds {fo : Option Nat} {d : Nat} (hd : 2 ≤ d + 1) {o : q_O} {σ' : q_H} (v0 : Nat) (v1 : Int32) (v2 : Int32) (v3 : Int32) (σ : q_H) : q_J (fun (r : Unit) (σ1 : q_H) => o = .inl none ∧ σ' = σ1) (f_Mo_weds v0 v1 v2 v3 σ) (q_G (q_rf fo) d m_Mo_weds o σ' 0 [some (.ref v0), some (.int v1), some (.int v2), some (.int v3), none, none, none] [] σ) := by
  unfold f_Mo_weds
  refine J_sq (fun (t41 : Unit) (σ42 : q_H) => q_G (q_rf fo) d m_Mo_weds o σ' 175 [none, none, none, none, none, none, none] [] σ42) (q_J.step (fun g => j_iconst (0 : Int32) rfl k32_0 (j_istore [some (.ref v0), some (.int v1), some (.int v2), some (.int v3), some (.int (0 : Int32)), none, none] rfl rfl (Or.inr rfl) rfl (g))) (l_Mo_weds_L3 hd v0 v1 v2 v3 (fun _ _ h => h) q_FU (0 : Int32) σ)) (fun t41 σ42 => ?_)
  exact J_some (fun h => j_vret rfl rfl h)
theorem t_Mo_weds {fo : Option Nat} {d : Nat} (hd : 2 ≤ d) {v0 : Nat} {v1 : Int32} {v2 : Int32} {v3 : Int32} {σ σ1 : q_H} {r : Unit} (h : f_Mo_weds v0 v1 v2 v3 σ = some (r, σ1)) : q_Rel (q_rf fo) q_Ms d 267 [.ref v0, .int v1, .int v2, .int v3] σ (.inl none) σ1 := by
  obtain ⟨d, rfl⟩ : ∃ d1, d = d1 + 1 := ⟨d - 1, by omega⟩
  exact q_Rel.of rfl rfl (b_Mo_weds hd _ _ _ _ σ _ _ h ⟨rfl, rfl⟩)

def f_Mo_mark (v0 : Nat) (v1 : Int32) (v2 : Int32) (σ : q_H) : Option ((Int32) × q_H) := (q_sf σ 12 v0 0 (.int (0 : Int32))).bind fun σ1 => q_sq (f_Mo_within v1 (0 : Int32) (3 : Int32) σ1) fun x3 σ2 => if x3 = (0 : Int32) then (some ((0 : Int32), σ2)) else (if v2 = (0 : Int32) then (if v2 = (0 : Int32) then ((q_ob σ2 12 v0).bind fun w7 => q_sq (f_Mo_keeps v0 v1 σ2) fun (_ : Unit) σ8 => (q_gr (q_gf σ8 12 v0 61)).bind fun x10 => (q_sa σ8 22 x10 v1 (.int (1 : Int32))).bind fun σ11 => some ((1 : Int32), σ11)) else ((q_ob σ2 12 v0).bind fun w12 => q_sq (f_Mo_takesBack v0 v1 σ2) fun (_ : Unit) σ13 => (q_gr (q_gf σ13 12 v0 61)).bind fun x15 => (q_sa σ13 22 x15 v1 (.int (1 : Int32))).bind fun σ16 => some ((1 : Int32), σ16))) else ((q_gr (q_gf σ2 12 v0 61)).bind fun x17 => (q_gi (q_ga σ2 22 x17 v1)).bind fun x18 => if x18 = (0 : Int32) then (some ((0 : Int32), σ2)) else (if v2 = (0 : Int32) then ((q_ob σ2 12 v0).bind fun w21 => q_sq (f_Mo_keeps v0 v1 σ2) fun (_ : Unit) σ22 => (q_gr (q_gf σ22 12 v0 61)).bind fun x24 => (q_sa σ22 22 x24 v1 (.int (1 : Int32))).bind fun σ25 => some ((1 : Int32), σ25)) else ((q_ob σ2 12 v0).bind fun w26 => q_sq (f_Mo_takesBack v0 v1 σ2) fun (_ : Unit) σ27 => (q_gr (q_gf σ27 12 v0 61)).bind fun x29 => (q_sa σ27 22 x29 v1 (.int (1 : Int32))).bind fun σ30 => some ((1 : Int32), σ30)))))
set_option maxRecDepth 100000 in
theorem b_Mo_mark {fo : Option Nat} {d : Nat} (hd : 2 ≤ d + 1) {o : q_O} {σ' : q_H} (v0 : Nat) (v1 : Int32) (v2 : Int32) (σ : q_H) : q_J (fun (r : Int32) (σ1 : q_H) => o = .inl (some (.int r)) ∧ σ' = σ1) (f_Mo_mark v0 v1 v2 σ) (q_G (q_rf fo) d m_Mo_mark o σ' 0 [some (.ref v0), some (.int v1), some (.int v2)] [] σ) := by
  unfold f_Mo_mark
  refine J_bind fun σ1 hσ1 => ?_
  refine J_cl fun x3 σ2 hσ2 => ?_
  refine q_J.step (fun g => j_aload_n rfl rfl (j_iconst (0 : Int32) rfl k32_0 (j_putf rfl rfl rfl rfl hσ1 (j_iload_n rfl rfl (j_iconst (0 : Int32) rfl k32_0 (j_iconst (3 : Int32) rfl k32_3 (j_s1 [.int v1, .int (0 : Int32), .int (3 : Int32)] [] rfl rfl rfl rfl rfl (t_Mo_within (by omega) hσ2) (g)))))))) ?_
  refine J_ite (fun h4 => ?_) (fun h4 => ?_)
  · exact J_some (fun h => j_if_t rfl (cc_eq_t h4) (j_iconst (0 : Int32) rfl k32_0 (j_iret rfl (q_zr (Or.inl rfl)) h)))
  refine q_J.step (fun g => j_if_f rfl (cc_eq_f h4) (j_iload_n rfl rfl (g))) ?_
  refine J_ite (fun h5 => ?_) (fun h5 => ?_)
  · refine q_J.step (fun g => j_if_t rfl (cc_eq_t h5) (j_iload_n rfl rfl (g))) ?_
    refine J_ite (fun h6 => ?_) (fun h6 => ?_)
    · refine J_bind fun w7 hw7 => ?_
      refine J_cl fun _ σ8 hσ8 => ?_
      refine J_bind fun x10 hx10 => ?_
      refine J_bind fun σ11 hσ11 => ?_
      exact J_some (fun h => j_if_t rfl (cc_eq_t h6) (j_aload_n rfl rfl (j_iload_n rfl rfl (j_v0 [.ref v0, .int v1] [] rfl rfl rfl rfl rfl rfl hw7 (Or.inl rfl) (t_Mo_keeps (by omega) hσ8) (j_aload_n rfl rfl (j_gfr rfl hx10 (j_iload_n rfl rfl (j_iconst (1 : Int32) rfl k32_1 (j_bas rfl (by decide) hσ11 (j_iconst (1 : Int32) rfl k32_1 (j_iret rfl (q_zr (Or.inr rfl)) h)))))))))))
    refine J_bind fun w12 hw12 => ?_
    refine J_cl fun _ σ13 hσ13 => ?_
    refine J_bind fun x15 hx15 => ?_
    refine J_bind fun σ16 hσ16 => ?_
    exact J_some (fun h => j_if_f rfl (cc_eq_f h6) (j_aload_n rfl rfl (j_iload_n rfl rfl (j_v0 [.ref v0, .int v1] [] rfl rfl rfl rfl rfl rfl hw12 (Or.inl rfl) (t_Mo_takesBack (by omega) hσ13) (j_goto rfl (j_aload_n rfl rfl (j_gfr rfl hx15 (j_iload_n rfl rfl (j_iconst (1 : Int32) rfl k32_1 (j_bas rfl (by decide) hσ16 (j_iconst (1 : Int32) rfl k32_1 (j_iret rfl (q_zr (Or.inr rfl)) h))))))))))))
  refine J_bind fun x17 hx17 => ?_
  refine J_bind fun x18 hx18 => ?_
  refine q_J.step (fun g => j_if_f rfl (cc_eq_f h5) (j_aload_n rfl rfl (j_gfr rfl hx17 (j_iload_n rfl rfl (j_bal rfl rfl hx18 (g)))))) ?_
  refine J_ite (fun h19 => ?_) (fun h19 => ?_)
  · exact J_some (fun h => j_if_f rfl (cc_ne_f h19) (j_iconst (0 : Int32) rfl k32_0 (j_iret rfl (q_zr (Or.inl rfl)) h)))
  refine q_J.step (fun g => j_if_t rfl (cc_ne_t h19) (j_iload_n rfl rfl (g))) ?_
  refine J_ite (fun h20 => ?_) (fun h20 => ?_)
  · refine J_bind fun w21 hw21 => ?_
    refine J_cl fun _ σ22 hσ22 => ?_
    refine J_bind fun x24 hx24 => ?_
    refine J_bind fun σ25 hσ25 => ?_
    exact J_some (fun h => j_if_t rfl (cc_eq_t h20) (j_aload_n rfl rfl (j_iload_n rfl rfl (j_v0 [.ref v0, .int v1] [] rfl rfl rfl rfl rfl rfl hw21 (Or.inl rfl) (t_Mo_keeps (by omega) hσ22) (j_aload_n rfl rfl (j_gfr rfl hx24 (j_iload_n rfl rfl (j_iconst (1 : Int32) rfl k32_1 (j_bas rfl (by decide) hσ25 (j_iconst (1 : Int32) rfl k32_1 (j_iret rfl (q_zr (Or.inr rfl)) h)))))))))))
  refine J_bind fun w26 hw26 => ?_
  refine J_cl fun _ σ27 hσ27 => ?_
  refine J_bind fun x29 hx29 => ?_
  refine J_bind fun σ30 hσ30 => ?_
  exact J_some (fun h => j_if_f rfl (cc_eq_f h20) (j_aload_n rfl rfl (j_iload_n rfl rfl (j_v0 [.ref v0, .int v1] [] rfl rfl rfl rfl rfl rfl hw26 (Or.inl rfl) (t_Mo_takesBack (by omega) hσ27) (j_goto rfl (j_aload_n rfl rfl (j_gfr rfl hx29 (j_iload_n rfl rfl (j_iconst (1 : Int32) rfl k32_1 (j_bas rfl (by decide) hσ30 (j_iconst (1 : Int32) rfl k32_1 (j_iret rfl (q_zr (Or.inr rfl)) h))))))))))))
theorem t_Mo_mark {fo : Option Nat} {d : Nat} (hd : 2 ≤ d) {v0 : Nat} {v1 : Int32} {v2 : Int32} {σ σ1 : q_H} {r : Int32} (h : f_Mo_mark v0 v1 v2 σ = some (r, σ1)) : q_Rel (q_rf fo) q_Ms d 275 [.ref v0, .int v1, .int v2] σ (.inl (some (.int r))) σ1 := by
  obtain ⟨d, rfl⟩ : ∃ d1, d = d1 + 1 := ⟨d - 1, by omega⟩
  exact q_Rel.of rfl rfl (b_Mo_mark hd _ _ _ σ _ _ h ⟨rfl, rfl⟩)

def f_Mo_may (v0 : Nat) (v1 : Int32) (v2 : Int32) (σ : q_H) : Option ((Int32) × q_H) := (q_sf σ 12 v0 0 (.int (0 : Int32))).bind fun σ1 => (q_ob σ1 12 v0).bind fun w2 => q_sq (f_Mo_isSheet v0 v1 σ1) fun x4 σ3 => if x4 = (0 : Int32) then (some ((0 : Int32), σ3)) else (q_sq (f_Mo_within v2 (0 : Int32) (20 : Int32) σ3) fun x7 σ6 => if x7 = (0 : Int32) then (some ((0 : Int32), σ6)) else ((q_gr (q_gf σ6 12 v0 6)).bind fun x9 => (q_sa σ6 20 x9 v1 (.int v2)).bind fun σ10 => some ((1 : Int32), σ10)))
set_option maxRecDepth 100000 in
theorem b_Mo_may {fo : Option Nat} {d : Nat} (hd : 3 ≤ d + 1) {o : q_O} {σ' : q_H} (v0 : Nat) (v1 : Int32) (v2 : Int32) (σ : q_H) : q_J (fun (r : Int32) (σ1 : q_H) => o = .inl (some (.int r)) ∧ σ' = σ1) (f_Mo_may v0 v1 v2 σ) (q_G (q_rf fo) d m_Mo_may o σ' 0 [some (.ref v0), some (.int v1), some (.int v2)] [] σ) := by
  unfold f_Mo_may
  refine J_bind fun σ1 hσ1 => ?_
  refine J_bind fun w2 hw2 => ?_
  refine J_cl fun x4 σ3 hσ3 => ?_
  refine q_J.step (fun g => j_aload_n rfl rfl (j_iconst (0 : Int32) rfl k32_0 (j_putf rfl rfl rfl rfl hσ1 (j_aload_n rfl rfl (j_iload_n rfl rfl (j_v1 [.ref v0, .int v1] [] rfl rfl rfl rfl rfl rfl hw2 (Or.inl rfl) (t_Mo_isSheet (by omega) hσ3) (g))))))) ?_
  refine J_ite (fun h5 => ?_) (fun h5 => ?_)
  · exact J_some (fun h => j_if_t rfl (cc_eq_t h5) (j_iconst (0 : Int32) rfl k32_0 (j_iret rfl (q_zr (Or.inl rfl)) h)))
  refine J_cl fun x7 σ6 hσ6 => ?_
  refine q_J.step (fun g => j_if_f rfl (cc_eq_f h5) (j_iload_n rfl rfl (j_iconst (0 : Int32) rfl k32_0 (j_bipush (20 : Int32) rfl kb_20 (j_s1 [.int v2, .int (0 : Int32), .int (20 : Int32)] [] rfl rfl rfl rfl rfl (t_Mo_within (by omega) hσ6) (g)))))) ?_
  refine J_ite (fun h8 => ?_) (fun h8 => ?_)
  · exact J_some (fun h => j_if_f rfl (cc_ne_f h8) (j_iconst (0 : Int32) rfl k32_0 (j_iret rfl (q_zr (Or.inl rfl)) h)))
  refine J_bind fun x9 hx9 => ?_
  refine J_bind fun σ10 hσ10 => ?_
  exact J_some (fun h => j_if_t rfl (cc_ne_t h8) (j_aload_n rfl rfl (j_gfr rfl hx9 (j_iload_n rfl rfl (j_iload_n rfl rfl (j_ias rfl hσ10 (j_iconst (1 : Int32) rfl k32_1 (j_iret rfl (q_zr (Or.inr rfl)) h))))))))
theorem t_Mo_may {fo : Option Nat} {d : Nat} (hd : 3 ≤ d) {v0 : Nat} {v1 : Int32} {v2 : Int32} {σ σ1 : q_H} {r : Int32} (h : f_Mo_may v0 v1 v2 σ = some (r, σ1)) : q_Rel (q_rf fo) q_Ms d 174 [.ref v0, .int v1, .int v2] σ (.inl (some (.int r))) σ1 := by
  obtain ⟨d, rfl⟩ : ∃ d1, d = d1 + 1 := ⟨d - 1, by omega⟩
  exact q_Rel.of rfl rfl (b_Mo_may hd _ _ _ σ _ _ h ⟨rfl, rfl⟩)

def f_Mo_isThere (v0 : Nat) (v1 : Int32) (σ : q_H) : Option ((Int32) × q_H) := (q_ob σ 12 v0).bind fun w1 => q_sq (f_Mo_isSheet v0 v1 σ) fun x3 σ2 => if x3 = (0 : Int32) then (some ((0 : Int32), σ2)) else ((q_gr (q_gf σ2 12 v0 3)).bind fun x5 => (q_gi (q_ga σ2 22 x5 v1)).bind fun x6 => if x6 = (0 : Int32) then (some ((0 : Int32), σ2)) else (some ((1 : Int32), σ2)))
set_option maxRecDepth 100000 in
theorem b_Mo_isThere {fo : Option Nat} {d : Nat} (hd : 3 ≤ d + 1) {o : q_O} {σ' : q_H} (v0 : Nat) (v1 : Int32) (σ : q_H) : q_J (fun (r : Int32) (σ1 : q_H) => o = .inl (some (.int r)) ∧ σ' = σ1) (f_Mo_isThere v0 v1 σ) (q_G (q_rf fo) d m_Mo_isThere o σ' 0 [some (.ref v0), some (.int v1)] [] σ) := by
  unfold f_Mo_isThere
  refine J_bind fun w1 hw1 => ?_
  refine J_cl fun x3 σ2 hσ2 => ?_
  refine q_J.step (fun g => j_aload_n rfl rfl (j_iload_n rfl rfl (j_v1 [.ref v0, .int v1] [] rfl rfl rfl rfl rfl rfl hw1 (Or.inl rfl) (t_Mo_isSheet (by omega) hσ2) (g)))) ?_
  refine J_ite (fun h4 => ?_) (fun h4 => ?_)
  · exact J_some (fun h => j_if_t rfl (cc_eq_t h4) (j_iconst (0 : Int32) rfl k32_0 (j_iret rfl (q_zr (Or.inl rfl)) h)))
  refine J_bind fun x5 hx5 => ?_
  refine J_bind fun x6 hx6 => ?_
  refine q_J.step (fun g => j_if_f rfl (cc_eq_f h4) (j_aload_n rfl rfl (j_gfr rfl hx5 (j_iload_n rfl rfl (j_bal rfl rfl hx6 (g)))))) ?_
  refine J_ite (fun h7 => ?_) (fun h7 => ?_)
  · exact J_some (fun h => j_if_t rfl (cc_eq_t h7) (j_iconst (0 : Int32) rfl k32_0 (j_iret rfl (q_zr (Or.inl rfl)) h)))
  exact J_some (fun h => j_if_f rfl (cc_eq_f h7) (j_iconst (1 : Int32) rfl k32_1 (j_goto rfl (j_iret rfl (q_zr (Or.inr rfl)) h))))
theorem t_Mo_isThere {fo : Option Nat} {d : Nat} (hd : 3 ≤ d) {v0 : Nat} {v1 : Int32} {σ σ1 : q_H} {r : Int32} (h : f_Mo_isThere v0 v1 σ = some (r, σ1)) : q_Rel (q_rf fo) q_Ms d 177 [.ref v0, .int v1] σ (.inl (some (.int r))) σ1 := by
  obtain ⟨d, rfl⟩ : ∃ d1, d = d1 + 1 := ⟨d - 1, by omega⟩
  exact q_Rel.of rfl rfl (b_Mo_isThere hd _ _ σ _ _ h ⟨rfl, rfl⟩)

def f_Mo_starts (v0 : Nat) (σ : q_H) : Option ((Unit) × q_H) := (q_gi (q_gf σ 12 v0 16)).bind fun x1 => (q_sf σ 12 v0 18 (.int x1)).bind fun σ2 => (q_sf σ2 12 v0 16 (.int (0 : Int32))).bind fun σ3 => (q_sf σ3 12 v0 19 (.int (0 : Int32))).bind fun σ4 => (q_ob σ4 12 v0).bind fun w5 => q_sq (f_Mo_nextToken v0 σ4) fun (_ : Unit) σ6 => some ((), σ6)
set_option maxRecDepth 100000 in
theorem b_Mo_starts {fo : Option Nat} {d : Nat} (hd : 3 ≤ d + 1) {o : q_O} {σ' : q_H} (v0 : Nat) (σ : q_H) : q_J (fun (r : Unit) (σ1 : q_H) => o = .inl none ∧ σ' = σ1) (f_Mo_starts v0 σ) (q_G (q_rf fo) d m_Mo_starts o σ' 0 [some (.ref v0)] [] σ) := by
  unfold f_Mo_starts
  refine J_bind fun x1 hx1 => ?_
  refine J_bind fun σ2 hσ2 => ?_
  refine J_bind fun σ3 hσ3 => ?_
  refine J_bind fun σ4 hσ4 => ?_
  refine J_bind fun w5 hw5 => ?_
  refine J_cl fun _ σ6 hσ6 => ?_
  exact J_some (fun h => j_aload_n rfl rfl (j_aload_n rfl rfl (j_gfi rfl hx1 (j_putf rfl rfl rfl rfl hσ2 (j_aload_n rfl rfl (j_iconst (0 : Int32) rfl k32_0 (j_putf rfl rfl rfl rfl hσ3 (j_aload_n rfl rfl (j_iconst (0 : Int32) rfl k32_0 (j_putf rfl rfl rfl rfl hσ4 (j_aload_n rfl rfl (j_v0 [.ref v0] [] rfl rfl rfl rfl rfl rfl hw5 (Or.inl rfl) (t_Mo_nextToken (by omega) hσ6) (j_vret rfl rfl h)))))))))))))
theorem t_Mo_starts {fo : Option Nat} {d : Nat} (hd : 3 ≤ d) {v0 : Nat} {σ σ1 : q_H} {r : Unit} (h : f_Mo_starts v0 σ = some (r, σ1)) : q_Rel (q_rf fo) q_Ms d 184 [.ref v0] σ (.inl none) σ1 := by
  obtain ⟨d, rfl⟩ : ∃ d1, d = d1 + 1 := ⟨d - 1, by omega⟩
  exact q_Rel.of rfl rfl (b_Mo_starts hd _ σ _ _ h ⟨rfl, rfl⟩)

def f_Mo_readsName (v0 : Nat) (v1 : Int32) (v2 : Int32) (σ : q_H) : Option ((Int32) × q_H) := (q_ob σ 12 v0).bind fun w1 => q_sq (f_Mo_isName v0 σ) fun x3 σ2 => if x3 = (0 : Int32) then ((q_ob σ2 12 v0).bind fun w5 => q_sq (f_Mo_errs v0 (1 : Int32) σ2) fun x7 σ6 => if ¬ (x7 = 0 ∨ x7 = 1) then none else some (x7, σ6)) else (if (2 : Int32) < v2 then ((q_gl' (q_gf σ2 12 v0 22)).bind fun x9 => (q_ob σ2 12 v0).bind fun w10 => q_sq (f_Mo_lineOf v0 x9 σ2) fun x12 σ11 => if x12 < (0 : Int32) then ((q_ob σ11 12 v0).bind fun w14 => q_sq (f_Mo_errs v0 (2 : Int32) σ11) fun x16 σ15 => if ¬ (x16 = 0 ∨ x16 = 1) then none else some (x16, σ15)) else (if v2 = (3 : Int32) then ((q_gr (q_gf σ11 12 v0 8)).bind fun x18 => (q_gi (q_ga σ11 20 x18 ((288 : Int32) + x12))).bind fun x19 => if x19 = (1 : Int32) then ((q_ob σ11 12 v0).bind fun w21 => q_sq (f_Mo_errs v0 (2 : Int32) σ11) fun x23 σ22 => if ¬ (x23 = 0 ∨ x23 = 1) then none else some (x23, σ22)) else (if v2 = (3 : Int32) then ((q_ob σ11 12 v0).bind fun w25 => q_sq (f_Mo_isWed v0 x12 σ11) fun x27 σ26 => if x27 = (0 : Int32) then (q_sq (if v2 = (3 : Int32) then ((q_gr (q_gf σ26 12 v0 10)).bind fun x30 => (q_sa σ26 20 x30 v1 (.int x12)).bind fun σ31 => some ((), σ31)) else ((q_gr (q_gf σ26 12 v0 11)).bind fun x32 => (q_sa σ26 20 x32 v1 (.int x12)).bind fun σ33 => some ((), σ33))) fun (t34 : Unit) σ35 => (q_ob σ35 12 v0).bind fun w36 => q_sq (f_Mo_nextToken v0 σ35) fun (_ : Unit) σ37 => some ((1 : Int32), σ37)) else ((q_ob σ26 12 v0).bind fun w39 => q_sq (f_Mo_errs v0 (3 : Int32) σ26) fun x41 σ40 => if ¬ (x41 = 0 ∨ x41 = 1) then none else some (x41, σ40))) else (q_sq (if v2 = (3 : Int32) then ((q_gr (q_gf σ11 12 v0 10)).bind fun x43 => (q_sa σ11 20 x43 v1 (.int x12)).bind fun σ44 => some ((), σ44)) else ((q_gr (q_gf σ11 12 v0 11)).bind fun x45 => (q_sa σ11 20 x45 v1 (.int x12)).bind fun σ46 => some ((), σ46))) fun (t47 : Unit) σ48 => (q_ob σ48 12 v0).bind fun w49 => q_sq (f_Mo_nextToken v0 σ48) fun (_ : Unit) σ50 => some ((1 : Int32), σ50)))) else (if v2 = (3 : Int32) then ((q_ob σ11 12 v0).bind fun w53 => q_sq (f_Mo_isWed v0 x12 σ11) fun x55 σ54 => if x55 = (0 : Int32) then (q_sq (if v2 = (3 : Int32) then ((q_gr (q_gf σ54 12 v0 10)).bind fun x58 => (q_sa σ54 20 x58 v1 (.int x12)).bind fun σ59 => some ((), σ59)) else ((q_gr (q_gf σ54 12 v0 11)).bind fun x60 => (q_sa σ54 20 x60 v1 (.int x12)).bind fun σ61 => some ((), σ61))) fun (t62 : Unit) σ63 => (q_ob σ63 12 v0).bind fun w64 => q_sq (f_Mo_nextToken v0 σ63) fun (_ : Unit) σ65 => some ((1 : Int32), σ65)) else ((q_ob σ54 12 v0).bind fun w67 => q_sq (f_Mo_errs v0 (3 : Int32) σ54) fun x69 σ68 => if ¬ (x69 = 0 ∨ x69 = 1) then none else some (x69, σ68))) else (q_sq (if v2 = (3 : Int32) then ((q_gr (q_gf σ11 12 v0 10)).bind fun x71 => (q_sa σ11 20 x71 v1 (.int x12)).bind fun σ72 => some ((), σ72)) else ((q_gr (q_gf σ11 12 v0 11)).bind fun x73 => (q_sa σ11 20 x73 v1 (.int x12)).bind fun σ74 => some ((), σ74))) fun (t75 : Unit) σ76 => (q_ob σ76 12 v0).bind fun w77 => q_sq (f_Mo_nextToken v0 σ76) fun (_ : Unit) σ78 => some ((1 : Int32), σ78))))) else (q_sq (if v2 = (1 : Int32) then ((q_gr (q_gf σ2 12 v0 14)).bind fun x81 => (q_gl' (q_gf σ2 12 v0 22)).bind fun x82 => (q_sa σ2 21 x81 v1 (.long x82)).bind fun σ83 => some ((), σ83)) else ((q_gr (q_gf σ2 12 v0 15)).bind fun x84 => (q_gl' (q_gf σ2 12 v0 22)).bind fun x85 => (q_sa σ2 21 x84 v1 (.long x85)).bind fun σ86 => some ((), σ86))) fun (t87 : Unit) σ88 => (q_ob σ88 12 v0).bind fun w89 => q_sq (f_Mo_nextToken v0 σ88) fun (_ : Unit) σ90 => some ((1 : Int32), σ90)))
set_option maxRecDepth 100000 in
theorem b_Mo_readsName {fo : Option Nat} {d : Nat} (hd : 3 ≤ d + 1) {o : q_O} {σ' : q_H} (v0 : Nat) (v1 : Int32) (v2 : Int32) (σ : q_H) : q_J (fun (r : Int32) (σ1 : q_H) => o = .inl (some (.int r)) ∧ σ' = σ1) (f_Mo_readsName v0 v1 v2 σ) (q_G (q_rf fo) d m_Mo_readsName o σ' 0 [some (.ref v0), some (.int v1), some (.int v2), none] [] σ) := by
  unfold f_Mo_readsName
  refine J_bind fun w1 hw1 => ?_
  refine J_cl fun x3 σ2 hσ2 => ?_
  refine q_J.step (fun g => j_aload_n rfl rfl (j_v1 [.ref v0] [] rfl rfl rfl rfl rfl rfl hw1 (Or.inl rfl) (t_Mo_isName (by omega) hσ2) (g))) ?_
  refine J_ite (fun h4 => ?_) (fun h4 => ?_)
  · refine J_bind fun w5 hw5 => ?_
    refine J_cl fun x7 σ6 hσ6 => ?_
    refine q_J.step (fun g => j_if_f rfl (cc_ne_f h4) (j_aload_n rfl rfl (j_iconst (1 : Int32) rfl k32_1 (j_v1 [.ref v0, .int (1 : Int32)] [] rfl rfl rfl rfl rfl rfl hw5 (Or.inl rfl) (t_Mo_errs (by omega) hσ6) (g))))) ?_
    refine J_ite (fun _ => J_none) (fun hz => ?_)
    replace hz := Decidable.not_not.mp hz
    exact J_some (fun h => j_iret rfl (q_zr hz) h)
  refine q_J.step (fun g => j_if_t rfl (cc_ne_t h4) (j_iload_n rfl rfl (j_iconst (2 : Int32) rfl k32_2 (g)))) ?_
  refine J_ite (fun h8 => ?_) (fun h8 => ?_)
  · refine J_bind fun x9 hx9 => ?_
    refine J_bind fun w10 hw10 => ?_
    refine J_cl fun x12 σ11 hσ11 => ?_
    refine q_J.step (fun g => j_icmp_f rfl (cc_le_f h8) (j_aload_n rfl rfl (j_aload_n rfl rfl (j_gfl rfl hx9 (j_v1 [.ref v0, .long x9] [] rfl rfl rfl rfl rfl rfl hw10 (Or.inl rfl) (t_Mo_lineOf (by omega) hσ11) (j_istore_n [some (.ref v0), some (.int v1), some (.int v2), some (.int x12)] rfl rfl (Or.inr rfl) rfl (j_iload_n rfl rfl (g)))))))) ?_
    refine J_ite (fun h13 => ?_) (fun h13 => ?_)
    · refine J_bind fun w14 hw14 => ?_
      refine J_cl fun x16 σ15 hσ15 => ?_
      refine q_J.step (fun g => j_if_t rfl (cc_lt_t h13) (j_aload_n rfl rfl (j_iconst (2 : Int32) rfl k32_2 (j_v1 [.ref v0, .int (2 : Int32)] [] rfl rfl rfl rfl rfl rfl hw14 (Or.inl rfl) (t_Mo_errs (by omega) hσ15) (g))))) ?_
      refine J_ite (fun _ => J_none) (fun hz => ?_)
      replace hz := Decidable.not_not.mp hz
      exact J_some (fun h => j_iret rfl (q_zr hz) h)
    refine q_J.step (fun g => j_if_f rfl (cc_lt_f h13) (j_iload_n rfl rfl (j_iconst (3 : Int32) rfl k32_3 (g)))) ?_
    refine J_ite (fun h17 => ?_) (fun h17 => ?_)
    · refine J_bind fun x18 hx18 => ?_
      refine J_bind fun x19 hx19 => ?_
      refine q_J.step (fun g => j_icmp_f rfl (cc_ne_f h17) (j_aload_n rfl rfl (j_gfr rfl hx18 (j_sipush (288 : Int32) rfl ks_288 (j_iload_n rfl rfl (j_iadd rfl (j_ial rfl hx19 (j_iconst (1 : Int32) rfl k32_1 (g))))))))) ?_
      refine J_ite (fun h20 => ?_) (fun h20 => ?_)
      · refine J_bind fun w21 hw21 => ?_
        refine J_cl fun x23 σ22 hσ22 => ?_
        refine q_J.step (fun g => j_icmp_f rfl (cc_ne_f h20) (j_aload_n rfl rfl (j_iconst (2 : Int32) rfl k32_2 (j_v1 [.ref v0, .int (2 : Int32)] [] rfl rfl rfl rfl rfl rfl hw21 (Or.inl rfl) (t_Mo_errs (by omega) hσ22) (g))))) ?_
        refine J_ite (fun _ => J_none) (fun hz => ?_)
        replace hz := Decidable.not_not.mp hz
        exact J_some (fun h => j_iret rfl (q_zr hz) h)
      refine q_J.step (fun g => j_icmp_t rfl (cc_ne_t h20) (j_iload_n rfl rfl (j_iconst (3 : Int32) rfl k32_3 (g)))) ?_
      refine J_ite (fun h24 => ?_) (fun h24 => ?_)
      · refine J_bind fun w25 hw25 => ?_
        refine J_cl fun x27 σ26 hσ26 => ?_
        refine q_J.step (fun g => j_icmp_f rfl (cc_ne_f h24) (j_aload_n rfl rfl (j_iload_n rfl rfl (j_v1 [.ref v0, .int x12] [] rfl rfl rfl rfl rfl rfl hw25 (Or.inl rfl) (t_Mo_isWed (by omega) hσ26) (g))))) ?_
        refine J_ite (fun h28 => ?_) (fun h28 => ?_)
        · refine q_J.step (fun g => j_if_t rfl (cc_eq_t h28) (j_iload_n rfl rfl (j_iconst (3 : Int32) rfl k32_3 (g)))) ?_
          refine J_sq (fun (t34 : Unit) (σ35 : q_H) => q_G (q_rf fo) d m_Mo_readsName o σ' 97 [some (.ref v0), none, none, none] [] σ35) ?_ (fun t34 σ35 => ?_)
          · refine J_ite (fun h29 => ?_) (fun h29 => ?_)
            · refine J_bind fun x30 hx30 => ?_
              refine J_bind fun σ31 hσ31 => ?_
              exact J_some (fun h => j_icmp_f rfl (cc_ne_f h29) (j_aload_n rfl rfl (j_gfr rfl hx30 (j_iload_n rfl rfl (j_iload_n rfl rfl (j_ias rfl hσ31 (j_goto rfl (j_weak (l := [some (.ref v0), none, none, none]) (And.intro (Or.inr rfl) (And.intro (Or.inl rfl) (And.intro (Or.inl rfl) (And.intro (Or.inl rfl) True.intro)))) (h)))))))))
            refine J_bind fun x32 hx32 => ?_
            refine J_bind fun σ33 hσ33 => ?_
            exact J_some (fun h => j_icmp_t rfl (cc_ne_t h29) (j_aload_n rfl rfl (j_gfr rfl hx32 (j_iload_n rfl rfl (j_iload_n rfl rfl (j_ias rfl hσ33 (j_weak (l := [some (.ref v0), none, none, none]) (And.intro (Or.inr rfl) (And.intro (Or.inl rfl) (And.intro (Or.inl rfl) (And.intro (Or.inl rfl) True.intro)))) (h))))))))
          refine J_bind fun w36 hw36 => ?_
          refine J_cl fun _ σ37 hσ37 => ?_
          exact J_some (fun h => j_goto rfl (j_aload_n rfl rfl (j_v0 [.ref v0] [] rfl rfl rfl rfl rfl rfl hw36 (Or.inl rfl) (t_Mo_nextToken (by omega) hσ37) (j_iconst (1 : Int32) rfl k32_1 (j_iret rfl (q_zr (Or.inr rfl)) h)))))
        refine J_bind fun w39 hw39 => ?_
        refine J_cl fun x41 σ40 hσ40 => ?_
        refine q_J.step (fun g => j_if_f rfl (cc_eq_f h28) (j_aload_n rfl rfl (j_iconst (3 : Int32) rfl k32_3 (j_v1 [.ref v0, .int (3 : Int32)] [] rfl rfl rfl rfl rfl rfl hw39 (Or.inl rfl) (t_Mo_errs (by omega) hσ40) (g))))) ?_
        refine J_ite (fun _ => J_none) (fun hz => ?_)
        replace hz := Decidable.not_not.mp hz
        exact J_some (fun h => j_iret rfl (q_zr hz) h)
      refine q_J.step (fun g => j_icmp_t rfl (cc_ne_t h24) (j_iload_n rfl rfl (j_iconst (3 : Int32) rfl k32_3 (g)))) ?_
      refine J_sq (fun (t47 : Unit) (σ48 : q_H) => q_G (q_rf fo) d m_Mo_readsName o σ' 97 [some (.ref v0), none, none, none] [] σ48) ?_ (fun t47 σ48 => ?_)
      · refine J_ite (fun h42 => ?_) (fun h42 => ?_)
        · refine J_bind fun x43 hx43 => ?_
          refine J_bind fun σ44 hσ44 => ?_
          exact J_some (fun h => j_icmp_f rfl (cc_ne_f h42) (j_aload_n rfl rfl (j_gfr rfl hx43 (j_iload_n rfl rfl (j_iload_n rfl rfl (j_ias rfl hσ44 (j_goto rfl (j_weak (l := [some (.ref v0), none, none, none]) (And.intro (Or.inr rfl) (And.intro (Or.inl rfl) (And.intro (Or.inl rfl) (And.intro (Or.inl rfl) True.intro)))) (h)))))))))
        refine J_bind fun x45 hx45 => ?_
        refine J_bind fun σ46 hσ46 => ?_
        exact J_some (fun h => j_icmp_t rfl (cc_ne_t h42) (j_aload_n rfl rfl (j_gfr rfl hx45 (j_iload_n rfl rfl (j_iload_n rfl rfl (j_ias rfl hσ46 (j_weak (l := [some (.ref v0), none, none, none]) (And.intro (Or.inr rfl) (And.intro (Or.inl rfl) (And.intro (Or.inl rfl) (And.intro (Or.inl rfl) True.intro)))) (h))))))))
      refine J_bind fun w49 hw49 => ?_
      refine J_cl fun _ σ50 hσ50 => ?_
      exact J_some (fun h => j_goto rfl (j_aload_n rfl rfl (j_v0 [.ref v0] [] rfl rfl rfl rfl rfl rfl hw49 (Or.inl rfl) (t_Mo_nextToken (by omega) hσ50) (j_iconst (1 : Int32) rfl k32_1 (j_iret rfl (q_zr (Or.inr rfl)) h)))))
    refine q_J.step (fun g => j_icmp_t rfl (cc_ne_t h17) (j_iload_n rfl rfl (j_iconst (3 : Int32) rfl k32_3 (g)))) ?_
    refine J_ite (fun h52 => ?_) (fun h52 => ?_)
    · refine J_bind fun w53 hw53 => ?_
      refine J_cl fun x55 σ54 hσ54 => ?_
      refine q_J.step (fun g => j_icmp_f rfl (cc_ne_f h52) (j_aload_n rfl rfl (j_iload_n rfl rfl (j_v1 [.ref v0, .int x12] [] rfl rfl rfl rfl rfl rfl hw53 (Or.inl rfl) (t_Mo_isWed (by omega) hσ54) (g))))) ?_
      refine J_ite (fun h56 => ?_) (fun h56 => ?_)
      · refine q_J.step (fun g => j_if_t rfl (cc_eq_t h56) (j_iload_n rfl rfl (j_iconst (3 : Int32) rfl k32_3 (g)))) ?_
        refine J_sq (fun (t62 : Unit) (σ63 : q_H) => q_G (q_rf fo) d m_Mo_readsName o σ' 97 [some (.ref v0), none, none, none] [] σ63) ?_ (fun t62 σ63 => ?_)
        · refine J_ite (fun h57 => ?_) (fun h57 => ?_)
          · refine J_bind fun x58 hx58 => ?_
            refine J_bind fun σ59 hσ59 => ?_
            exact J_some (fun h => j_icmp_f rfl (cc_ne_f h57) (j_aload_n rfl rfl (j_gfr rfl hx58 (j_iload_n rfl rfl (j_iload_n rfl rfl (j_ias rfl hσ59 (j_goto rfl (j_weak (l := [some (.ref v0), none, none, none]) (And.intro (Or.inr rfl) (And.intro (Or.inl rfl) (And.intro (Or.inl rfl) (And.intro (Or.inl rfl) True.intro)))) (h)))))))))
          refine J_bind fun x60 hx60 => ?_
          refine J_bind fun σ61 hσ61 => ?_
          exact J_some (fun h => j_icmp_t rfl (cc_ne_t h57) (j_aload_n rfl rfl (j_gfr rfl hx60 (j_iload_n rfl rfl (j_iload_n rfl rfl (j_ias rfl hσ61 (j_weak (l := [some (.ref v0), none, none, none]) (And.intro (Or.inr rfl) (And.intro (Or.inl rfl) (And.intro (Or.inl rfl) (And.intro (Or.inl rfl) True.intro)))) (h))))))))
        refine J_bind fun w64 hw64 => ?_
        refine J_cl fun _ σ65 hσ65 => ?_
        exact J_some (fun h => j_goto rfl (j_aload_n rfl rfl (j_v0 [.ref v0] [] rfl rfl rfl rfl rfl rfl hw64 (Or.inl rfl) (t_Mo_nextToken (by omega) hσ65) (j_iconst (1 : Int32) rfl k32_1 (j_iret rfl (q_zr (Or.inr rfl)) h)))))
      refine J_bind fun w67 hw67 => ?_
      refine J_cl fun x69 σ68 hσ68 => ?_
      refine q_J.step (fun g => j_if_f rfl (cc_eq_f h56) (j_aload_n rfl rfl (j_iconst (3 : Int32) rfl k32_3 (j_v1 [.ref v0, .int (3 : Int32)] [] rfl rfl rfl rfl rfl rfl hw67 (Or.inl rfl) (t_Mo_errs (by omega) hσ68) (g))))) ?_
      refine J_ite (fun _ => J_none) (fun hz => ?_)
      replace hz := Decidable.not_not.mp hz
      exact J_some (fun h => j_iret rfl (q_zr hz) h)
    refine q_J.step (fun g => j_icmp_t rfl (cc_ne_t h52) (j_iload_n rfl rfl (j_iconst (3 : Int32) rfl k32_3 (g)))) ?_
    refine J_sq (fun (t75 : Unit) (σ76 : q_H) => q_G (q_rf fo) d m_Mo_readsName o σ' 97 [some (.ref v0), none, none, none] [] σ76) ?_ (fun t75 σ76 => ?_)
    · refine J_ite (fun h70 => ?_) (fun h70 => ?_)
      · refine J_bind fun x71 hx71 => ?_
        refine J_bind fun σ72 hσ72 => ?_
        exact J_some (fun h => j_icmp_f rfl (cc_ne_f h70) (j_aload_n rfl rfl (j_gfr rfl hx71 (j_iload_n rfl rfl (j_iload_n rfl rfl (j_ias rfl hσ72 (j_goto rfl (j_weak (l := [some (.ref v0), none, none, none]) (And.intro (Or.inr rfl) (And.intro (Or.inl rfl) (And.intro (Or.inl rfl) (And.intro (Or.inl rfl) True.intro)))) (h)))))))))
      refine J_bind fun x73 hx73 => ?_
      refine J_bind fun σ74 hσ74 => ?_
      exact J_some (fun h => j_icmp_t rfl (cc_ne_t h70) (j_aload_n rfl rfl (j_gfr rfl hx73 (j_iload_n rfl rfl (j_iload_n rfl rfl (j_ias rfl hσ74 (j_weak (l := [some (.ref v0), none, none, none]) (And.intro (Or.inr rfl) (And.intro (Or.inl rfl) (And.intro (Or.inl rfl) (And.intro (Or.inl rfl) True.intro)))) (h))))))))
    refine J_bind fun w77 hw77 => ?_
    refine J_cl fun _ σ78 hσ78 => ?_
    exact J_some (fun h => j_goto rfl (j_aload_n rfl rfl (j_v0 [.ref v0] [] rfl rfl rfl rfl rfl rfl hw77 (Or.inl rfl) (t_Mo_nextToken (by omega) hσ78) (j_iconst (1 : Int32) rfl k32_1 (j_iret rfl (q_zr (Or.inr rfl)) h)))))
  refine q_J.step (fun g => j_icmp_t rfl (cc_le_t h8) (j_iload_n rfl rfl (j_iconst (1 : Int32) rfl k32_1 (g)))) ?_
  refine J_sq (fun (t87 : Unit) (σ88 : q_H) => q_G (q_rf fo) d m_Mo_readsName o σ' 128 [some (.ref v0), none, none, none] [] σ88) ?_ (fun t87 σ88 => ?_)
  · refine J_ite (fun h80 => ?_) (fun h80 => ?_)
    · refine J_bind fun x81 hx81 => ?_
      refine J_bind fun x82 hx82 => ?_
      refine J_bind fun σ83 hσ83 => ?_
      exact J_some (fun h => j_icmp_f rfl (cc_ne_f h80) (j_aload_n rfl rfl (j_gfr rfl hx81 (j_iload_n rfl rfl (j_aload_n rfl rfl (j_gfl rfl hx82 (j_las rfl hσ83 (j_goto rfl (j_weak (l := [some (.ref v0), none, none, none]) (And.intro (Or.inr rfl) (And.intro (Or.inl rfl) (And.intro (Or.inl rfl) (And.intro (Or.inr rfl) True.intro)))) (h))))))))))
    refine J_bind fun x84 hx84 => ?_
    refine J_bind fun x85 hx85 => ?_
    refine J_bind fun σ86 hσ86 => ?_
    exact J_some (fun h => j_icmp_t rfl (cc_ne_t h80) (j_aload_n rfl rfl (j_gfr rfl hx84 (j_iload_n rfl rfl (j_aload_n rfl rfl (j_gfl rfl hx85 (j_las rfl hσ86 (j_weak (l := [some (.ref v0), none, none, none]) (And.intro (Or.inr rfl) (And.intro (Or.inl rfl) (And.intro (Or.inl rfl) (And.intro (Or.inr rfl) True.intro)))) (h)))))))))
  refine J_bind fun w89 hw89 => ?_
  refine J_cl fun _ σ90 hσ90 => ?_
  exact J_some (fun h => j_aload_n rfl rfl (j_v0 [.ref v0] [] rfl rfl rfl rfl rfl rfl hw89 (Or.inl rfl) (t_Mo_nextToken (by omega) hσ90) (j_iconst (1 : Int32) rfl k32_1 (j_iret rfl (q_zr (Or.inr rfl)) h))))
theorem t_Mo_readsName {fo : Option Nat} {d : Nat} (hd : 3 ≤ d) {v0 : Nat} {v1 : Int32} {v2 : Int32} {σ σ1 : q_H} {r : Int32} (h : f_Mo_readsName v0 v1 v2 σ = some (r, σ1)) : q_Rel (q_rf fo) q_Ms d 194 [.ref v0, .int v1, .int v2] σ (.inl (some (.int r))) σ1 := by
  obtain ⟨d, rfl⟩ : ∃ d1, d = d1 + 1 := ⟨d - 1, by omega⟩
  exact q_Rel.of rfl rfl (b_Mo_readsName hd _ _ _ σ _ _ h ⟨rfl, rfl⟩)

def f_Mo_takenOf (v0 : Nat) (v1 : Int32) (v2 : Int32) (σ : q_H) : Option ((Int32) × q_H) := (q_ob σ 12 v0).bind fun w1 => q_sq (f_Mo_sortOf v0 v1 v2 σ) fun x3 σ2 => if x3 = (0 : Int32) then ((q_gr (q_gf σ2 12 v0 12)).bind fun x5 => (q_gi (q_ga σ2 20 x5 (((12 : Int32) * v1) + v2))).bind fun x6 => if (0 : Int32) < (x6 &&& (2 : Int32)) then (some ((2 : Int32), σ2)) else ((q_gr (q_gf σ2 12 v0 12)).bind fun x8 => (q_ob σ2 12 v0).bind fun w9 => q_sq (f_Mo_husband v0 v1 v2 σ2) fun x11 σ10 => (q_gi (q_ga σ10 20 x8 x11)).bind fun x12 => if (0 : Int32) < (x12 &&& (2 : Int32)) then (some ((2 : Int32), σ10)) else ((q_ob σ10 12 v0).bind fun w14 => q_sq (f_Mo_husband v0 v1 v2 σ10) fun x16 σ15 => (q_ob σ15 12 v0).bind fun w17 => q_sq (f_Mo_others v0 v1 (((12 : Int32) * v1) + v2) (0 : Int32) x16 σ15) fun x19 σ18 => if (0 : Int32) < x19 then (some ((0 : Int32), σ18)) else (some ((1 : Int32), σ18))))) else (if x3 = (2 : Int32) then ((q_gr (q_gf σ2 12 v0 12)).bind fun x22 => (q_gi (q_ga σ2 20 x22 (((12 : Int32) * v1) + v2))).bind fun x23 => if (0 : Int32) < (x23 &&& (2 : Int32)) then (some ((2 : Int32), σ2)) else ((q_gr (q_gf σ2 12 v0 12)).bind fun x25 => (q_ob σ2 12 v0).bind fun w26 => q_sq (f_Mo_husband v0 v1 v2 σ2) fun x28 σ27 => (q_gi (q_ga σ27 20 x25 x28)).bind fun x29 => if (0 : Int32) < (x29 &&& (2 : Int32)) then (some ((2 : Int32), σ27)) else ((q_ob σ27 12 v0).bind fun w31 => q_sq (f_Mo_husband v0 v1 v2 σ27) fun x33 σ32 => (q_ob σ32 12 v0).bind fun w34 => q_sq (f_Mo_others v0 v1 (((12 : Int32) * v1) + v2) (0 : Int32) x33 σ32) fun x36 σ35 => if (0 : Int32) < x36 then (some ((0 : Int32), σ35)) else (some ((1 : Int32), σ35))))) else (some ((0 : Int32), σ2)))
set_option maxRecDepth 100000 in
theorem b_Mo_takenOf {fo : Option Nat} {d : Nat} (hd : 3 ≤ d + 1) {o : q_O} {σ' : q_H} (v0 : Nat) (v1 : Int32) (v2 : Int32) (σ : q_H) : q_J (fun (r : Int32) (σ1 : q_H) => o = .inl (some (.int r)) ∧ σ' = σ1) (f_Mo_takenOf v0 v1 v2 σ) (q_G (q_rf fo) d m_Mo_takenOf o σ' 0 [some (.ref v0), some (.int v1), some (.int v2), none] [] σ) := by
  unfold f_Mo_takenOf
  refine J_bind fun w1 hw1 => ?_
  refine J_cl fun x3 σ2 hσ2 => ?_
  refine q_J.step (fun g => j_aload_n rfl rfl (j_iload_n rfl rfl (j_iload_n rfl rfl (j_v1 [.ref v0, .int v1, .int v2] [] rfl rfl rfl rfl rfl rfl hw1 (Or.inl rfl) (t_Mo_sortOf (by omega) hσ2) (j_istore_n [some (.ref v0), some (.int v1), some (.int v2), some (.int x3)] rfl rfl (Or.inr rfl) rfl (j_iload_n rfl rfl (g))))))) ?_
  refine J_ite (fun h4 => ?_) (fun h4 => ?_)
  · refine J_bind fun x5 hx5 => ?_
    refine J_bind fun x6 hx6 => ?_
    refine q_J.step (fun g => j_if_t rfl (cc_eq_t h4) (j_aload_n rfl rfl (j_gfr rfl hx5 (j_bipush (12 : Int32) rfl kb_12 (j_iload_n rfl rfl (j_imul rfl (j_iload_n rfl rfl (j_iadd rfl (j_ial rfl hx6 (j_iconst (2 : Int32) rfl k32_2 (j_iand rfl (g)))))))))))) ?_
    refine J_ite (fun h7 => ?_) (fun h7 => ?_)
    · exact J_some (fun h => j_if_t rfl (cc_gt_t h7) (j_iconst (2 : Int32) rfl k32_2 (j_iret rfl rfl h)))
    refine J_bind fun x8 hx8 => ?_
    refine J_bind fun w9 hw9 => ?_
    refine J_cl fun x11 σ10 hσ10 => ?_
    refine J_bind fun x12 hx12 => ?_
    refine q_J.step (fun g => j_if_f rfl (cc_gt_f h7) (j_aload_n rfl rfl (j_gfr rfl hx8 (j_aload_n rfl rfl (j_iload_n rfl rfl (j_iload_n rfl rfl (j_v1 [.ref v0, .int v1, .int v2] [.ref x8] rfl rfl rfl rfl rfl rfl hw9 (Or.inl rfl) (t_Mo_husband (by omega) hσ10) (j_ial rfl hx12 (j_iconst (2 : Int32) rfl k32_2 (j_iand rfl (g))))))))))) ?_
    refine J_ite (fun h13 => ?_) (fun h13 => ?_)
    · exact J_some (fun h => j_if_f rfl (cc_le_f h13) (j_iconst (2 : Int32) rfl k32_2 (j_iret rfl rfl h)))
    refine J_bind fun w14 hw14 => ?_
    refine J_cl fun x16 σ15 hσ15 => ?_
    refine J_bind fun w17 hw17 => ?_
    refine J_cl fun x19 σ18 hσ18 => ?_
    refine q_J.step (fun g => j_if_t rfl (cc_le_t h13) (j_aload_n rfl rfl (j_iload_n rfl rfl (j_bipush (12 : Int32) rfl kb_12 (j_iload_n rfl rfl (j_imul rfl (j_iload_n rfl rfl (j_iadd rfl (j_iconst (0 : Int32) rfl k32_0 (j_aload_n rfl rfl (j_iload_n rfl rfl (j_iload_n rfl rfl (j_v1 [.ref v0, .int v1, .int v2] [.int (0 : Int32), .int (((12 : Int32) * v1) + v2), .int v1, .ref v0] rfl rfl rfl rfl rfl rfl hw14 (Or.inl rfl) (t_Mo_husband (by omega) hσ15) (j_v1 [.ref v0, .int v1, .int (((12 : Int32) * v1) + v2), .int (0 : Int32), .int x16] [] rfl rfl rfl rfl rfl rfl hw17 (Or.inl rfl) (t_Mo_others (by omega) hσ18) (g))))))))))))))) ?_
    refine J_ite (fun h20 => ?_) (fun h20 => ?_)
    · exact J_some (fun h => j_if_f rfl (cc_le_f h20) (j_iconst (0 : Int32) rfl k32_0 (j_goto rfl (j_iret rfl rfl h))))
    exact J_some (fun h => j_if_t rfl (cc_le_t h20) (j_iconst (1 : Int32) rfl k32_1 (j_iret rfl rfl h)))
  refine q_J.step (fun g => j_if_f rfl (cc_eq_f h4) (j_iload_n rfl rfl (j_iconst (2 : Int32) rfl k32_2 (g)))) ?_
  refine J_ite (fun h21 => ?_) (fun h21 => ?_)
  · refine J_bind fun x22 hx22 => ?_
    refine J_bind fun x23 hx23 => ?_
    refine q_J.step (fun g => j_icmp_t rfl (cc_eq_t h21) (j_aload_n rfl rfl (j_gfr rfl hx22 (j_bipush (12 : Int32) rfl kb_12 (j_iload_n rfl rfl (j_imul rfl (j_iload_n rfl rfl (j_iadd rfl (j_ial rfl hx23 (j_iconst (2 : Int32) rfl k32_2 (j_iand rfl (g)))))))))))) ?_
    refine J_ite (fun h24 => ?_) (fun h24 => ?_)
    · exact J_some (fun h => j_if_t rfl (cc_gt_t h24) (j_iconst (2 : Int32) rfl k32_2 (j_iret rfl rfl h)))
    refine J_bind fun x25 hx25 => ?_
    refine J_bind fun w26 hw26 => ?_
    refine J_cl fun x28 σ27 hσ27 => ?_
    refine J_bind fun x29 hx29 => ?_
    refine q_J.step (fun g => j_if_f rfl (cc_gt_f h24) (j_aload_n rfl rfl (j_gfr rfl hx25 (j_aload_n rfl rfl (j_iload_n rfl rfl (j_iload_n rfl rfl (j_v1 [.ref v0, .int v1, .int v2] [.ref x25] rfl rfl rfl rfl rfl rfl hw26 (Or.inl rfl) (t_Mo_husband (by omega) hσ27) (j_ial rfl hx29 (j_iconst (2 : Int32) rfl k32_2 (j_iand rfl (g))))))))))) ?_
    refine J_ite (fun h30 => ?_) (fun h30 => ?_)
    · exact J_some (fun h => j_if_f rfl (cc_le_f h30) (j_iconst (2 : Int32) rfl k32_2 (j_iret rfl rfl h)))
    refine J_bind fun w31 hw31 => ?_
    refine J_cl fun x33 σ32 hσ32 => ?_
    refine J_bind fun w34 hw34 => ?_
    refine J_cl fun x36 σ35 hσ35 => ?_
    refine q_J.step (fun g => j_if_t rfl (cc_le_t h30) (j_aload_n rfl rfl (j_iload_n rfl rfl (j_bipush (12 : Int32) rfl kb_12 (j_iload_n rfl rfl (j_imul rfl (j_iload_n rfl rfl (j_iadd rfl (j_iconst (0 : Int32) rfl k32_0 (j_aload_n rfl rfl (j_iload_n rfl rfl (j_iload_n rfl rfl (j_v1 [.ref v0, .int v1, .int v2] [.int (0 : Int32), .int (((12 : Int32) * v1) + v2), .int v1, .ref v0] rfl rfl rfl rfl rfl rfl hw31 (Or.inl rfl) (t_Mo_husband (by omega) hσ32) (j_v1 [.ref v0, .int v1, .int (((12 : Int32) * v1) + v2), .int (0 : Int32), .int x33] [] rfl rfl rfl rfl rfl rfl hw34 (Or.inl rfl) (t_Mo_others (by omega) hσ35) (g))))))))))))))) ?_
    refine J_ite (fun h37 => ?_) (fun h37 => ?_)
    · exact J_some (fun h => j_if_f rfl (cc_le_f h37) (j_iconst (0 : Int32) rfl k32_0 (j_goto rfl (j_iret rfl rfl h))))
    exact J_some (fun h => j_if_t rfl (cc_le_t h37) (j_iconst (1 : Int32) rfl k32_1 (j_iret rfl rfl h)))
  exact J_some (fun h => j_icmp_f rfl (cc_eq_f h21) (j_iconst (0 : Int32) rfl k32_0 (j_iret rfl rfl h)))
theorem t_Mo_takenOf {fo : Option Nat} {d : Nat} (hd : 3 ≤ d) {v0 : Nat} {v1 : Int32} {v2 : Int32} {σ σ1 : q_H} {r : Int32} (h : f_Mo_takenOf v0 v1 v2 σ = some (r, σ1)) : q_Rel (q_rf fo) q_Ms d 207 [.ref v0, .int v1, .int v2] σ (.inl (some (.int r))) σ1 := by
  obtain ⟨d, rfl⟩ : ∃ d1, d = d1 + 1 := ⟨d - 1, by omega⟩
  exact q_Rel.of rfl rfl (b_Mo_takenOf hd _ _ _ σ _ _ h ⟨rfl, rfl⟩)

def f_Mo_isOne (v0 : Nat) (v1 : Int32) (v2 : Int32) (v3 : Int32) (v4 : Int32) (σ : q_H) : Option ((Int32) × q_H) := (q_gr (q_gf σ 12 v0 8)).bind fun x1 => (q_gi (q_ga σ 20 x1 (((12 : Int32) * v1) + v2))).bind fun x2 => (q_gr (q_gf σ 12 v0 8)).bind fun x3 => (q_gi (q_ga σ 20 x3 (((12 : Int32) * v3) + v4))).bind fun x4 => if x2 = x4 then ((q_gr (q_gf σ 12 v0 13)).bind fun x6 => (q_gl' (q_ga σ 21 x6 (((12 : Int32) * v1) + v2))).bind fun x7 => (q_gr (q_gf σ 12 v0 13)).bind fun x8 => (q_gl' (q_ga σ 21 x8 (((12 : Int32) * v3) + v4))).bind fun x9 => if x7 = x9 then ((q_ob σ 12 v0).bind fun w11 => q_sq (f_Mo_kinOf v0 (((12 : Int32) * v1) + v2) (((12 : Int32) * v3) + v4) σ) fun x13 σ12 => if x13 = (2 : Int32) then ((q_ob σ12 12 v0).bind fun w15 => q_sq (f_Mo_firstBorn v0 v1 v2 σ12) fun x17 σ16 => (q_ob σ16 12 v0).bind fun w18 => q_sq (f_Mo_lastBorn v0 v3 v4 σ16) fun x20 σ19 => if x20 < x17 then (some ((0 : Int32), σ19)) else ((q_ob σ19 12 v0).bind fun w22 => q_sq (f_Mo_firstBorn v0 v3 v4 σ19) fun x24 σ23 => (q_ob σ23 12 v0).bind fun w25 => q_sq (f_Mo_lastBorn v0 v1 v2 σ23) fun x27 σ26 => if x27 < x24 then (some ((0 : Int32), σ26)) else (some ((1 : Int32), σ26)))) else (some ((0 : Int32), σ12))) else (some ((0 : Int32), σ))) else (some ((0 : Int32), σ))
set_option maxRecDepth 100000 in
theorem b_Mo_isOne {fo : Option Nat} {d : Nat} (hd : 3 ≤ d + 1) {o : q_O} {σ' : q_H} (v0 : Nat) (v1 : Int32) (v2 : Int32) (v3 : Int32) (v4 : Int32) (σ : q_H) : q_J (fun (r : Int32) (σ1 : q_H) => o = .inl (some (.int r)) ∧ σ' = σ1) (f_Mo_isOne v0 v1 v2 v3 v4 σ) (q_G (q_rf fo) d m_Mo_isOne o σ' 0 [some (.ref v0), some (.int v1), some (.int v2), some (.int v3), some (.int v4), none, none] [] σ) := by
  unfold f_Mo_isOne
  refine J_bind fun x1 hx1 => ?_
  refine J_bind fun x2 hx2 => ?_
  refine J_bind fun x3 hx3 => ?_
  refine J_bind fun x4 hx4 => ?_
  refine q_J.step (fun g => j_bipush (12 : Int32) rfl kb_12 (j_iload_n rfl rfl (j_imul rfl (j_iload_n rfl rfl (j_iadd rfl (j_istore [some (.ref v0), some (.int v1), some (.int v2), some (.int v3), some (.int v4), some (.int (((12 : Int32) * v1) + v2)), none] rfl rfl (Or.inr rfl) rfl (j_bipush (12 : Int32) rfl kb_12 (j_iload_n rfl rfl (j_imul rfl (j_iload rfl rfl (j_iadd rfl (j_istore [some (.ref v0), some (.int v1), some (.int v2), some (.int v3), some (.int v4), some (.int (((12 : Int32) * v1) + v2)), some (.int (((12 : Int32) * v3) + v4))] rfl rfl (Or.inr rfl) rfl (j_aload_n rfl rfl (j_gfr rfl hx1 (g))))))))))))))) ?_
  refine q_J.step (fun g => j_iload rfl rfl (j_ial rfl hx2 (j_aload_n rfl rfl (j_gfr rfl hx3 (j_iload rfl rfl (j_ial rfl hx4 (g))))))) ?_
  refine J_ite (fun h5 => ?_) (fun h5 => ?_)
  · refine J_bind fun x6 hx6 => ?_
    refine J_bind fun x7 hx7 => ?_
    refine J_bind fun x8 hx8 => ?_
    refine J_bind fun x9 hx9 => ?_
    refine q_J.step (fun g => j_icmp_f rfl (cc_ne_f h5) (j_aload_n rfl rfl (j_gfr rfl hx6 (j_iload rfl rfl (j_lal rfl hx7 (j_aload_n rfl rfl (j_gfr rfl hx8 (j_iload rfl rfl (j_lal rfl hx9 (j_lcmp rfl (g))))))))))) ?_
    refine J_ite (fun h10 => ?_) (fun h10 => ?_)
    · refine J_bind fun w11 hw11 => ?_
      refine J_cl fun x13 σ12 hσ12 => ?_
      refine q_J.step (fun g => j_if_f rfl (lc_ne_f h10) (j_aload_n rfl rfl (j_iload rfl rfl (j_iload rfl rfl (j_v1 [.ref v0, .int (((12 : Int32) * v1) + v2), .int (((12 : Int32) * v3) + v4)] [] rfl rfl rfl rfl rfl rfl hw11 (Or.inl rfl) (t_Mo_kinOf (by omega) hσ12) (j_iconst (2 : Int32) rfl k32_2 (g))))))) ?_
      refine J_ite (fun h14 => ?_) (fun h14 => ?_)
      · refine J_bind fun w15 hw15 => ?_
        refine J_cl fun x17 σ16 hσ16 => ?_
        refine J_bind fun w18 hw18 => ?_
        refine J_cl fun x20 σ19 hσ19 => ?_
        refine q_J.step (fun g => j_icmp_f rfl (cc_ne_f h14) (j_aload_n rfl rfl (j_iload_n rfl rfl (j_iload_n rfl rfl (j_v1 [.ref v0, .int v1, .int v2] [] rfl rfl rfl rfl rfl rfl hw15 (Or.inl rfl) (t_Mo_firstBorn (by omega) hσ16) (j_aload_n rfl rfl (j_iload_n rfl rfl (j_iload rfl rfl (j_v1 [.ref v0, .int v3, .int v4] [.int x17] rfl rfl rfl rfl rfl rfl hw18 (Or.inl rfl) (t_Mo_lastBorn (by omega) hσ19) (g)))))))))) ?_
        refine J_ite (fun h21 => ?_) (fun h21 => ?_)
        · exact J_some (fun h => j_icmp_t rfl (cc_gt_t h21) (j_iconst (0 : Int32) rfl k32_0 (j_iret rfl (q_zr (Or.inl rfl)) h)))
        refine J_bind fun w22 hw22 => ?_
        refine J_cl fun x24 σ23 hσ23 => ?_
        refine J_bind fun w25 hw25 => ?_
        refine J_cl fun x27 σ26 hσ26 => ?_
        refine q_J.step (fun g => j_icmp_f rfl (cc_gt_f h21) (j_aload_n rfl rfl (j_iload_n rfl rfl (j_iload rfl rfl (j_v1 [.ref v0, .int v3, .int v4] [] rfl rfl rfl rfl rfl rfl hw22 (Or.inl rfl) (t_Mo_firstBorn (by omega) hσ23) (j_aload_n rfl rfl (j_iload_n rfl rfl (j_iload_n rfl rfl (j_v1 [.ref v0, .int v1, .int v2] [.int x24] rfl rfl rfl rfl rfl rfl hw25 (Or.inl rfl) (t_Mo_lastBorn (by omega) hσ26) (g)))))))))) ?_
        refine J_ite (fun h28 => ?_) (fun h28 => ?_)
        · exact J_some (fun h => j_icmp_t rfl (cc_gt_t h28) (j_iconst (0 : Int32) rfl k32_0 (j_iret rfl (q_zr (Or.inl rfl)) h)))
        exact J_some (fun h => j_icmp_f rfl (cc_gt_f h28) (j_iconst (1 : Int32) rfl k32_1 (j_goto rfl (j_iret rfl (q_zr (Or.inr rfl)) h))))
      exact J_some (fun h => j_icmp_t rfl (cc_ne_t h14) (j_iconst (0 : Int32) rfl k32_0 (j_iret rfl (q_zr (Or.inl rfl)) h)))
    exact J_some (fun h => j_if_t rfl (lc_ne_t h10) (j_iconst (0 : Int32) rfl k32_0 (j_iret rfl (q_zr (Or.inl rfl)) h)))
  exact J_some (fun h => j_icmp_t rfl (cc_ne_t h5) (j_iconst (0 : Int32) rfl k32_0 (j_iret rfl (q_zr (Or.inl rfl)) h)))
theorem t_Mo_isOne {fo : Option Nat} {d : Nat} (hd : 3 ≤ d) {v0 : Nat} {v1 : Int32} {v2 : Int32} {v3 : Int32} {v4 : Int32} {σ σ1 : q_H} {r : Int32} (h : f_Mo_isOne v0 v1 v2 v3 v4 σ = some (r, σ1)) : q_Rel (q_rf fo) q_Ms d 221 [.ref v0, .int v1, .int v2, .int v3, .int v4] σ (.inl (some (.int r))) σ1 := by
  obtain ⟨d, rfl⟩ : ∃ d1, d = d1 + 1 := ⟨d - 1, by omega⟩
  exact q_Rel.of rfl rfl (b_Mo_isOne hd _ _ _ _ _ σ _ _ h ⟨rfl, rfl⟩)

def f_Mo_could (v0 : Nat) (v1 : Int32) (v2 : Int32) (v3 : Int32) (v4 : Int32) (σ : q_H) : Option ((Int64) × q_H) := (q_sf σ 12 v0 0 (.int (0 : Int32))).bind fun σ1 => q_sq (f_Mo_isTable v1 σ1) fun x3 σ2 => if x3 = (0 : Int32) then (some ((-1 : Int64), σ2)) else (q_sq (f_Mo_within v2 (0 : Int32) (120 : Int32) σ2) fun x6 σ5 => if x6 = (0 : Int32) then (some ((-1 : Int64), σ5)) else (q_sq (f_Mo_within v3 (0 : Int32) (30 : Int32) σ5) fun x9 σ8 => if x9 = (0 : Int32) then (some ((-1 : Int64), σ8)) else (q_sq (f_Mo_within v4 (0 : Int32) (1 : Int32) σ8) fun x12 σ11 => if x12 = (0 : Int32) then (some ((-1 : Int64), σ11)) else ((q_ob σ11 12 v0).bind fun w14 => q_sq (f_Mo_couldOf v0 v1 v2 v3 σ11) fun x16 σ15 => (q_gl' (q_gf σ15 12 v0 34)).bind fun x17 => q_sq (f_Mo_lowest x16 x17 v4 σ15) fun x19 σ18 => some (x19, σ18)))))
set_option maxRecDepth 100000 in
theorem b_Mo_could {fo : Option Nat} {d : Nat} (hd : 3 ≤ d + 1) {o : q_O} {σ' : q_H} (v0 : Nat) (v1 : Int32) (v2 : Int32) (v3 : Int32) (v4 : Int32) (σ : q_H) : q_J (fun (r : Int64) (σ1 : q_H) => o = .inl (some (.long r)) ∧ σ' = σ1) (f_Mo_could v0 v1 v2 v3 v4 σ) (q_G (q_rf fo) d m_Mo_could o σ' 0 [some (.ref v0), some (.int v1), some (.int v2), some (.int v3), some (.int v4), none, none] [] σ) := by
  unfold f_Mo_could
  refine J_bind fun σ1 hσ1 => ?_
  refine J_cl fun x3 σ2 hσ2 => ?_
  refine q_J.step (fun g => j_aload_n rfl rfl (j_iconst (0 : Int32) rfl k32_0 (j_putf rfl rfl rfl rfl hσ1 (j_iload_n rfl rfl (j_s1 [.int v1] [] rfl rfl rfl rfl rfl (t_Mo_isTable (by omega) hσ2) (g)))))) ?_
  refine J_ite (fun h4 => ?_) (fun h4 => ?_)
  · exact J_some (fun h => j_if_t rfl (cc_eq_t h4) (j_ldc2 (-1 : Int64) rfl kw_m1 (j_lret rfl rfl h)))
  refine J_cl fun x6 σ5 hσ5 => ?_
  refine q_J.step (fun g => j_if_f rfl (cc_eq_f h4) (j_iload_n rfl rfl (j_iconst (0 : Int32) rfl k32_0 (j_bipush (120 : Int32) rfl kb_120 (j_s1 [.int v2, .int (0 : Int32), .int (120 : Int32)] [] rfl rfl rfl rfl rfl (t_Mo_within (by omega) hσ5) (g)))))) ?_
  refine J_ite (fun h7 => ?_) (fun h7 => ?_)
  · exact J_some (fun h => j_if_t rfl (cc_eq_t h7) (j_ldc2 (-1 : Int64) rfl kw_m1 (j_lret rfl rfl h)))
  refine J_cl fun x9 σ8 hσ8 => ?_
  refine q_J.step (fun g => j_if_f rfl (cc_eq_f h7) (j_iload_n rfl rfl (j_iconst (0 : Int32) rfl k32_0 (j_bipush (30 : Int32) rfl kb_30 (j_s1 [.int v3, .int (0 : Int32), .int (30 : Int32)] [] rfl rfl rfl rfl rfl (t_Mo_within (by omega) hσ8) (g)))))) ?_
  refine J_ite (fun h10 => ?_) (fun h10 => ?_)
  · exact J_some (fun h => j_if_t rfl (cc_eq_t h10) (j_ldc2 (-1 : Int64) rfl kw_m1 (j_lret rfl rfl h)))
  refine J_cl fun x12 σ11 hσ11 => ?_
  refine q_J.step (fun g => j_if_f rfl (cc_eq_f h10) (j_iload rfl rfl (j_iconst (0 : Int32) rfl k32_0 (j_iconst (1 : Int32) rfl k32_1 (j_s1 [.int v4, .int (0 : Int32), .int (1 : Int32)] [] rfl rfl rfl rfl rfl (t_Mo_within (by omega) hσ11) (g)))))) ?_
  refine J_ite (fun h13 => ?_) (fun h13 => ?_)
  · exact J_some (fun h => j_if_f rfl (cc_ne_f h13) (j_ldc2 (-1 : Int64) rfl kw_m1 (j_lret rfl rfl h)))
  refine J_bind fun w14 hw14 => ?_
  refine J_cl fun x16 σ15 hσ15 => ?_
  refine J_bind fun x17 hx17 => ?_
  refine J_cl fun x19 σ18 hσ18 => ?_
  exact J_some (fun h => j_if_t rfl (cc_ne_t h13) (j_aload_n rfl rfl (j_iload_n rfl rfl (j_iload_n rfl rfl (j_iload_n rfl rfl (j_v1 [.ref v0, .int v1, .int v2, .int v3] [] rfl rfl rfl rfl rfl rfl hw14 (Or.inl rfl) (t_Mo_couldOf (by omega) hσ15) (j_lstore [some (.ref v0), some (.int v1), some (.int v2), some (.int v3), some (.int v4), some (.long x16), none] rfl rfl (Or.inr rfl) rfl (j_lload rfl rfl (j_aload_n rfl rfl (j_gfl rfl hx17 (j_iload rfl rfl (j_s1 [.long x16, .long x17, .int v4] [] rfl rfl rfl rfl rfl (t_Mo_lowest (by omega) hσ18) (j_lret rfl rfl h)))))))))))))
theorem t_Mo_could {fo : Option Nat} {d : Nat} (hd : 3 ≤ d) {v0 : Nat} {v1 : Int32} {v2 : Int32} {v3 : Int32} {v4 : Int32} {σ σ1 : q_H} {r : Int64} (h : f_Mo_could v0 v1 v2 v3 v4 σ = some (r, σ1)) : q_Rel (q_rf fo) q_Ms d 243 [.ref v0, .int v1, .int v2, .int v3, .int v4] σ (.inl (some (.long r))) σ1 := by
  obtain ⟨d, rfl⟩ : ∃ d1, d = d1 + 1 := ⟨d - 1, by omega⟩
  exact q_Rel.of rfl rfl (b_Mo_could hd _ _ _ _ _ σ _ _ h ⟨rfl, rfl⟩)

