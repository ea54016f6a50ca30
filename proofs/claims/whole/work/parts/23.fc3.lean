/-! Methods of the class: functions on the small heap, and their walks: by program. -/
def f_Rs_sisters_L60 (v0 : Nat) (v1 : Int32) (v2 : Int32) (v3 : Int32) (v8 : Int32) (v9 : Option Nat) : Nat → Int64 → Int64 → Int32 → q_H → Option ((Int64 × Int64) × q_H)
  | 0, _, _, _, _ => none
  | n + 1, v4, v6, v10, σ => match v9 with | none => (some ((v4, v6), σ)) | some a15 => ((q_gi (q_gf σ 8 a15 0)).bind fun x16 => if v10 < x16 then ((q_gr (q_gf σ 8 a15 7)).bind fun x18 => (q_gi (q_ga σ 20 x18 v10)).bind fun x19 => (q_ob σ 8 a15).bind fun w20 => q_sq (f_Pa_has a15 x19 σ) fun x22 σ21 => if x22 = (0 : Int32) then (f_Rs_sisters_L60 v0 v1 v2 v3 v8 v9 n v4 v6 (v10 + (1 : Int32)) σ21) else ((q_gr (q_gf σ21 0 v0 7)).bind fun x24 => (q_gr (q_gf σ21 8 a15 5)).bind fun x25 => (q_gi (q_ga σ21 20 x25 x19)).bind fun x26 => (q_ob σ21 4 x24).bind fun w27 => q_sq (f_Li_oddsOfSister x24 v1 x26 v2 σ21) fun x29 σ28 => (q_gr (q_gf σ28 8 a15 9)).bind fun x30 => (q_gi (q_ga σ28 20 x30 v10)).bind fun x31 => if x31 = (0 : Int32) then (f_Rs_sisters_L60 v0 v1 v2 v3 v8 v9 n (v4 + x29) (v6 + (1 : Int64)) (v10 + (1 : Int32)) σ28) else (f_Rs_sisters_L60 v0 v1 v2 v3 v8 v9 n (v4 + x29) (v6 + (0 : Int64)) (v10 + (1 : Int32)) σ28))) else (some ((v4, v6), σ)))
set_option maxRecDepth 100000 in
theorem l_Rs_sisters_L60 {fo : Option Nat} {d : Nat} (hd : 3 ≤ d + 1) {o : q_O} {σ' : q_H} {E : (Int64 × Int64) → q_H → Prop} (v0 : Nat) (v1 : Int32) (v2 : Int32) (v3 : Int32) (v8 : Int32) (v9 : Option Nat) (hX : ∀ (t : Int64 × Int64) σ1, E (t) σ1 → q_G (q_rf fo) d m_Rs_sisters o σ' 144 [some (.ref v0), some (.int v1), some (.int v2), some (.int v3), some (.long t.1), none, some (.long t.2), none, some (.int v8), none, none, none] [] σ1)  : ∀ (n : Nat) (v4 : Int64) (v6 : Int64) (v10 : Int32) (σ : q_H), q_J E (f_Rs_sisters_L60 v0 v1 v2 v3 v8 v9 n v4 v6 v10 σ) (q_G (q_rf fo) d m_Rs_sisters o σ' 60 [some (.ref v0), some (.int v1), some (.int v2), some (.int v3), some (.long v4), none, some (.long v6), none, some (.int v8), some (q_rf v9), some (.int v10), none] [] σ)
  | 0, v4, v6, v10, σ => J_none
  | n + 1, v4, v6, v10, σ => by
    unfold f_Rs_sisters_L60
    refine q_J.step (fun g => j_aloadO (x := v9) rfl rfl (g)) ?_
    cases ha15 : v9 with
    | none =>
      try subst ha15
      exact J_some (fun h => j_nul_t rfl (j_weak (l := [some (.ref v0), some (.int v1), some (.int v2), some (.int v3), some (.long v4), none, some (.long v6), none, some (.int v8), none, none, none]) (And.intro (Or.inr rfl) (And.intro (Or.inr rfl) (And.intro (Or.inr rfl) (And.intro (Or.inr rfl) (And.intro (Or.inr rfl) (And.intro (Or.inr rfl) (And.intro (Or.inr rfl) (And.intro (Or.inr rfl) (And.intro (Or.inr rfl) (And.intro (Or.inl rfl) (And.intro (Or.inl rfl) (And.intro (Or.inr rfl) True.intro)))))))))))) (hX _ _ h)))
    | some a15 =>
      try subst ha15
      refine J_bind fun x16 hx16 => ?_
      refine q_J.step (fun g => j_nul_f rfl (j_iload rfl rfl (j_aload rfl rfl (j_gfi rfl hx16 (g))))) ?_
      refine J_ite (fun h17 => ?_) (fun h17 => ?_)
      · refine J_bind fun x18 hx18 => ?_
        refine J_bind fun x19 hx19 => ?_
        refine J_bind fun w20 hw20 => ?_
        refine J_cl fun x22 σ21 hσ21 => ?_
        refine q_J.step (fun g => j_icmp_f rfl (cc_ge_f h17) (j_aload rfl rfl (j_gfr rfl hx18 (j_iload rfl rfl (j_ial rfl hx19 (j_istore [some (.ref v0), some (.int v1), some (.int v2), some (.int v3), some (.long v4), none, some (.long v6), none, some (.int v8), some (.ref a15), some (.int v10), some (.int x19)] rfl rfl (Or.inr rfl) rfl (j_aload rfl rfl (j_iload rfl rfl (j_v1 [.ref a15, .int x19] [] rfl rfl rfl rfl rfl rfl hw20 (Or.inl rfl) (t_Pa_has (by omega) hσ21) (g)))))))))) ?_
        refine J_ite (fun h23 => ?_) (fun h23 => ?_)
        · exact q_J.step (fun g => j_if_t rfl (cc_eq_t h23) (j_iinc [some (.ref v0), some (.int v1), some (.int v2), some (.int v3), some (.long v4), none, some (.long v6), none, some (.int v8), some (.ref a15), some (.int (v10 + (1 : Int32))), some (.int x19)] (v10 + (1 : Int32)) rfl rfl (by rw [k32_1]) (Or.inr rfl) rfl (j_goto rfl (j_weak (l := [some (.ref v0), some (.int v1), some (.int v2), some (.int v3), some (.long v4), none, some (.long v6), none, some (.int v8), some (.ref a15), some (.int (v10 + (1 : Int32))), none]) (And.intro (Or.inr rfl) (And.intro (Or.inr rfl) (And.intro (Or.inr rfl) (And.intro (Or.inr rfl) (And.intro (Or.inr rfl) (And.intro (Or.inr rfl) (And.intro (Or.inr rfl) (And.intro (Or.inr rfl) (And.intro (Or.inr rfl) (And.intro (Or.inr rfl) (And.intro (Or.inr rfl) (And.intro (Or.inl rfl) True.intro)))))))))))) (g))))) (l_Rs_sisters_L60 hd v0 v1 v2 v3 v8 (some a15) hX n v4 v6 (v10 + (1 : Int32)) σ21)
        refine J_bind fun x24 hx24 => ?_
        refine J_bind fun x25 hx25 => ?_
        refine J_bind fun x26 hx26 => ?_
        refine J_bind fun w27 hw27 => ?_
        refine J_cl fun x29 σ28 hσ28 => ?_
        refine J_bind fun x30 hx30 => ?_
        refine J_bind fun x31 hx31 => ?_
        refine q_J.step (fun g => j_if_f rfl (cc_eq_f h23) (j_lload rfl rfl (j_aload_n rfl rfl (j_gfr rfl hx24 (j_iload_n rfl rfl (j_aload rfl rfl (j_gfr rfl hx25 (j_iload rfl rfl (j_ial rfl hx26 (j_iload_n rfl rfl (j_v1 [.ref x24, .int v1, .int x26, .int v2] [.long v4] rfl rfl rfl rfl rfl rfl hw27 (Or.inl rfl) (t_Li_oddsOfSister (by omega) hσ28) (j_ladd rfl (j_lstore [some (.ref v0), some (.int v1), some (.int v2), some (.int v3), some (.long (v4 + x29)), none, some (.long v6), none, some (.int v8), some (.ref a15), some (.int v10), some (.int x19)] rfl rfl (Or.inr rfl) rfl (j_lload rfl rfl (g))))))))))))))) ?_
        refine q_J.step (fun g => j_aload rfl rfl (j_gfr rfl hx30 (j_iload rfl rfl (j_ial rfl hx31 (g))))) ?_
        refine J_ite (fun h32 => ?_) (fun h32 => ?_)
        · exact q_J.step (fun g => j_if_f rfl (cc_ne_f h32) (j_lconst (1 : Int64) rfl kl_1 (j_goto rfl (j_ladd rfl (j_lstore [some (.ref v0), some (.int v1), some (.int v2), some (.int v3), some (.long (v4 + x29)), none, some (.long (v6 + (1 : Int64))), none, some (.int v8), some (.ref a15), some (.int v10), some (.int x19)] rfl rfl (Or.inr True.intro) rfl (j_iinc [some (.ref v0), some (.int v1), some (.int v2), some (.int v3), some (.long (v4 + x29)), none, some (.long (v6 + (1 : Int64))), none, some (.int v8), some (.ref a15), some (.int (v10 + (1 : Int32))), some (.int x19)] (v10 + (1 : Int32)) rfl rfl (by rw [k32_1]) (Or.inr rfl) rfl (j_goto rfl (j_weak (l := [some (.ref v0), some (.int v1), some (.int v2), some (.int v3), some (.long (v4 + x29)), none, some (.long (v6 + (1 : Int64))), none, some (.int v8), some (.ref a15), some (.int (v10 + (1 : Int32))), none]) (And.intro (Or.inr rfl) (And.intro (Or.inr rfl) (And.intro (Or.inr rfl) (And.intro (Or.inr rfl) (And.intro (Or.inr rfl) (And.intro (Or.inr rfl) (And.intro (Or.inr rfl) (And.intro (Or.inr rfl) (And.intro (Or.inr rfl) (And.intro (Or.inr rfl) (And.intro (Or.inr rfl) (And.intro (Or.inl rfl) True.intro)))))))))))) (g))))))))) (l_Rs_sisters_L60 hd v0 v1 v2 v3 v8 (some a15) hX n (v4 + x29) (v6 + (1 : Int64)) (v10 + (1 : Int32)) σ28)
        exact q_J.step (fun g => j_if_t rfl (cc_ne_t h32) (j_lconst (0 : Int64) rfl kl_0 (j_ladd rfl (j_lstore [some (.ref v0), some (.int v1), some (.int v2), some (.int v3), some (.long (v4 + x29)), none, some (.long (v6 + (0 : Int64))), none, some (.int v8), some (.ref a15), some (.int v10), some (.int x19)] rfl rfl (Or.inr True.intro) rfl (j_iinc [some (.ref v0), some (.int v1), some (.int v2), some (.int v3), some (.long (v4 + x29)), none, some (.long (v6 + (0 : Int64))), none, some (.int v8), some (.ref a15), some (.int (v10 + (1 : Int32))), some (.int x19)] (v10 + (1 : Int32)) rfl rfl (by rw [k32_1]) (Or.inr rfl) rfl (j_goto rfl (j_weak (l := [some (.ref v0), some (.int v1), some (.int v2), some (.int v3), some (.long (v4 + x29)), none, some (.long (v6 + (0 : Int64))), none, some (.int v8), some (.ref a15), some (.int (v10 + (1 : Int32))), none]) (And.intro (Or.inr rfl) (And.intro (Or.inr rfl) (And.intro (Or.inr rfl) (And.intro (Or.inr rfl) (And.intro (Or.inr rfl) (And.intro (Or.inr rfl) (And.intro (Or.inr rfl) (And.intro (Or.inr rfl) (And.intro (Or.inr rfl) (And.intro (Or.inr rfl) (And.intro (Or.inr rfl) (And.intro (Or.inl rfl) True.intro)))))))))))) (g)))))))) (l_Rs_sisters_L60 hd v0 v1 v2 v3 v8 (some a15) hX n (v4 + x29) (v6 + (0 : Int64)) (v10 + (1 : Int32)) σ28)
      exact J_some (fun h => j_icmp_t rfl (cc_ge_t h17) (j_weak (l := [some (.ref v0), some (.int v1), some (.int v2), some (.int v3), some (.long v4), none, some (.long v6), none, some (.int v8), none, none, none]) (And.intro (Or.inr rfl) (And.intro (Or.inr rfl) (And.intro (Or.inr rfl) (And.intro (Or.inr rfl) (And.intro (Or.inr rfl) (And.intro (Or.inr rfl) (And.intro (Or.inr rfl) (And.intro (Or.inr rfl) (And.intro (Or.inr rfl) (And.intro (Or.inl rfl) (And.intro (Or.inl rfl) (And.intro (Or.inr rfl) True.intro)))))))))))) (hX _ _ h)))

def f_Rs_sisters_L39 (v0 : Nat) (v1 : Int32) (v2 : Int32) (v3 : Int32) : Nat → Int64 → Int64 → Int32 → q_H → Option ((Int64 × Int64) × q_H)
  | 0, _, _, _, _ => none
  | n + 1, v4, v6, v8, σ => if v8 < (24 : Int32) then ((q_gr (q_gf σ 0 v0 3)).bind fun x11 => (q_ob σ 2 x11).bind fun w12 => q_sq (f_Sf_pageOf x11 v8 σ) fun x14 σ13 => q_sq (f_Rs_sisters_L60 v0 v1 v2 v3 v8 x14 q_FU v4 v6 (0 : Int32) σ13) fun (t33 : Int64 × Int64) σ34 => f_Rs_sisters_L39 v0 v1 v2 v3 n t33.1 t33.2 (v8 + (1 : Int32)) σ34) else (some ((v4, v6), σ))
set_option maxRecDepth 100000 in
theorem l_Rs_sisters_L39 {fo : Option Nat} {d : Nat} (hd : 3 ≤ d + 1) {o : q_O} {σ' : q_H} {E : (Int64 × Int64) → q_H → Prop} (v0 : Nat) (v1 : Int32) (v2 : Int32) (v3 : Int32) (hX : ∀ (t : Int64 × Int64) σ1, E (t) σ1 → q_G (q_rf fo) d m_Rs_sisters o σ' 150 [none, none, none, some (.int v3), some (.long t.1), none, some (.long t.2), none, none, none, none, none] [] σ1)  : ∀ (n : Nat) (v4 : Int64) (v6 : Int64) (v8 : Int32) (σ : q_H), q_J E (f_Rs_sisters_L39 v0 v1 v2 v3 n v4 v6 v8 σ) (q_G (q_rf fo) d m_Rs_sisters o σ' 39 [some (.ref v0), some (.int v1), some (.int v2), some (.int v3), some (.long v4), none, some (.long v6), none, some (.int v8), none, none, none] [] σ)
  | 0, v4, v6, v8, σ => J_none
  | n + 1, v4, v6, v8, σ => by
    unfold f_Rs_sisters_L39
    refine q_J.step (fun g => j_iload rfl rfl (j_bipush (24 : Int32) rfl kb_24 (g))) ?_
    refine J_ite (fun h10 => ?_) (fun h10 => ?_)
    · refine J_bind fun x11 hx11 => ?_
      refine J_bind fun w12 hw12 => ?_
      refine J_cl fun x14 σ13 hσ13 => ?_
      refine J_sq (fun (t33 : Int64 × Int64) (σ34 : q_H) => q_G (q_rf fo) d m_Rs_sisters o σ' 144 [some (.ref v0), some (.int v1), some (.int v2), some (.int v3), some (.long t33.1), none, some (.long t33.2), none, some (.int v8), none, none, none] [] σ34) (q_J.step (fun g => j_icmp_f rfl (cc_ge_f h10) (j_aload_n rfl rfl (j_gfr rfl hx11 (j_iload rfl rfl (j_v1 [.ref x11, .int v8] [] rfl rfl rfl rfl rfl rfl hw12 (Or.inl rfl) (t_Sf_pageOf (by omega) hσ13) (j_astoreO (x := x14) [some (.ref v0), some (.int v1), some (.int v2), some (.int v3), some (.long v4), none, some (.long v6), none, some (.int v8), some (q_rf x14), none, none] rfl rfl (Or.inr rfl) rfl (j_iconst (0 : Int32) rfl k32_0 (j_istore [some (.ref v0), some (.int v1), some (.int v2), some (.int v3), some (.long v4), none, some (.long v6), none, some (.int v8), some (q_rf x14), some (.int (0 : Int32)), none] rfl rfl (Or.inr (q_rf_cat _)) rfl (g))))))))) (l_Rs_sisters_L60 hd v0 v1 v2 v3 v8 x14 (fun _ _ h => h) q_FU v4 v6 (0 : Int32) σ13)) (fun t33 σ34 => ?_)
      exact q_J.step (fun g => j_iinc [some (.ref v0), some (.int v1), some (.int v2), some (.int v3), some (.long t33.1), none, some (.long t33.2), none, some (.int (v8 + (1 : Int32))), none, none, none] (v8 + (1 : Int32)) rfl rfl (by rw [k32_1]) (Or.inr True.intro) rfl (j_goto rfl (g))) (l_Rs_sisters_L39 hd v0 v1 v2 v3 hX n t33.1 t33.2 (v8 + (1 : Int32)) σ34)
    exact J_some (fun h => j_icmp_t rfl (cc_ge_t h10) (j_weak (l := [none, none, none, some (.int v3), some (.long v4), none, some (.long v6), none, none, none, none, none]) (And.intro (Or.inl rfl) (And.intro (Or.inl rfl) (And.intro (Or.inl rfl) (And.intro (Or.inr rfl) (And.intro (Or.inr rfl) (And.intro (Or.inr rfl) (And.intro (Or.inr rfl) (And.intro (Or.inr rfl) (And.intro (Or.inl rfl) (And.intro (Or.inr rfl) (And.intro (Or.inr rfl) (And.intro (Or.inr rfl) True.intro)))))))))))) (hX _ _ h)))

def f_Rs_sisters (v0 : Nat) (v1 : Int32) (v2 : Int32) (v3 : Int32) (σ : q_H) : Option ((Int64) × q_H) := q_sq (f_Rs_isTable v1 σ) fun x2 σ1 => if x2 = (0 : Int32) then (some ((-1 : Int64), σ1)) else (q_sq (f_Rs_isFrom (0 : Int32) v2 (30 : Int32) σ1) fun x5 σ4 => if x5 = (0 : Int32) then (some ((-1 : Int64), σ4)) else (q_sq (f_Rs_isFrom (0 : Int32) v3 (1 : Int32) σ4) fun x8 σ7 => if x8 = (0 : Int32) then (some ((-1 : Int64), σ7)) else (q_sq (f_Rs_sisters_L39 v0 v1 v2 v3 q_FU (0 : Int64) (0 : Int64) (0 : Int32) σ7) fun (t35 : Int64 × Int64) σ36 => if v3 = (0 : Int32) then (some (t35.1, σ36)) else (if (0 : Int64) < ((t35.2 * (10000000000000000 : Int64)) - t35.1) then (some ((((((t35.2 * (10000000000000000 : Int64)) - t35.1) + (10000000000000000 : Int64)) - (1 : Int64)) / (10000000000000000 : Int64)), σ36)) else (some ((0 : Int64), σ36))))))
set_option maxRecDepth 100000 in
theorem b_Rs_sisters {fo : Option Nat} {d : Nat} (hd : 3 ≤ d + 1) {o : q_O} {σ' : q_H} (v0 : Nat) (v1 : Int32) (v2 : Int32) (v3 : Int32) (σ : q_H) : q_J (fun (r : Int64) (σ1 : q_H) => o = .inl (some (.long r)) ∧ σ' = σ1) (f_Rs_sisters v0 v1 v2 v3 σ) (q_G (q_rf fo) d m_Rs_sisters o σ' 0 [some (.ref v0), some (.int v1), some (.int v2), some (.int v3), none, none, none, none, none, none, none, none] [] σ) := by
  unfold f_Rs_sisters
  refine J_cl fun x2 σ1 hσ1 => ?_
  refine q_J.step (fun g => j_iload_n rfl rfl (j_s1 [.int v1] [] rfl rfl rfl rfl rfl (t_Rs_isTable (by omega) hσ1) (g))) ?_
  refine J_ite (fun h3 => ?_) (fun h3 => ?_)
  · exact J_some (fun h => j_if_t rfl (cc_eq_t h3) (j_ldc2 (-1 : Int64) rfl kw_m1 (j_lret rfl rfl h)))
  refine J_cl fun x5 σ4 hσ4 => ?_
  refine q_J.step (fun g => j_if_f rfl (cc_eq_f h3) (j_iconst (0 : Int32) rfl k32_0 (j_iload_n rfl rfl (j_bipush (30 : Int32) rfl kb_30 (j_s1 [.int (0 : Int32), .int v2, .int (30 : Int32)] [] rfl rfl rfl rfl rfl (t_Rs_isFrom (by omega) hσ4) (g)))))) ?_
  refine J_ite (fun h6 => ?_) (fun h6 => ?_)
  · exact J_some (fun h => j_if_t rfl (cc_eq_t h6) (j_ldc2 (-1 : Int64) rfl kw_m1 (j_lret rfl rfl h)))
  refine J_cl fun x8 σ7 hσ7 => ?_
  refine q_J.step (fun g => j_if_f rfl (cc_eq_f h6) (j_iconst (0 : Int32) rfl k32_0 (j_iload_n rfl rfl (j_iconst (1 : Int32) rfl k32_1 (j_s1 [.int (0 : Int32), .int v3, .int (1 : Int32)] [] rfl rfl rfl rfl rfl (t_Rs_isFrom (by omega) hσ7) (g)))))) ?_
  refine J_ite (fun h9 => ?_) (fun h9 => ?_)
  · exact J_some (fun h => j_if_f rfl (cc_ne_f h9) (j_ldc2 (-1 : Int64) rfl kw_m1 (j_lret rfl rfl h)))
  refine J_sq (fun (t35 : Int64 × Int64) (σ36 : q_H) => q_G (q_rf fo) d m_Rs_sisters o σ' 150 [none, none, none, some (.int v3), some (.long t35.1), none, some (.long t35.2), none, none, none, none, none] [] σ36) (q_J.step (fun g => j_if_t rfl (cc_ne_t h9) (j_lconst (0 : Int64) rfl kl_0 (j_lstore [some (.ref v0), some (.int v1), some (.int v2), some (.int v3), some (.long (0 : Int64)), none, none, none, none, none, none, none] rfl rfl (Or.inr rfl) rfl (j_lconst (0 : Int64) rfl kl_0 (j_lstore [some (.ref v0), some (.int v1), some (.int v2), some (.int v3), some (.long (0 : Int64)), none, some (.long (0 : Int64)), none, none, none, none, none] rfl rfl (Or.inr True.intro) rfl (j_iconst (0 : Int32) rfl k32_0 (j_istore [some (.ref v0), some (.int v1), some (.int v2), some (.int v3), some (.long (0 : Int64)), none, some (.long (0 : Int64)), none, some (.int (0 : Int32)), none, none, none] rfl rfl (Or.inr True.intro) rfl (g)))))))) (l_Rs_sisters_L39 hd v0 v1 v2 v3 (fun _ _ h => h) q_FU (0 : Int64) (0 : Int64) (0 : Int32) σ7)) (fun t35 σ36 => ?_)
  refine q_J.step (fun g => j_iload_n rfl rfl (g)) ?_
  refine J_ite (fun h37 => ?_) (fun h37 => ?_)
  · exact J_some (fun h => j_if_f rfl (cc_ne_f h37) (j_lload rfl rfl (j_lret rfl rfl h)))
  refine q_J.step (fun g => j_if_t rfl (cc_ne_t h37) (j_lload rfl rfl (j_ldc2 (10000000000000000 : Int64) rfl kw_10000000000000000 (j_lmul rfl (j_lload rfl rfl (j_lsub rfl (j_lstore [none, none, none, some (.int v3), some (.long t35.1), none, some (.long t35.2), none, some (.long ((t35.2 * (10000000000000000 : Int64)) - t35.1)), none, none, none] rfl rfl (Or.inr True.intro) rfl (j_lload rfl rfl (j_lconst (0 : Int64) rfl kl_0 (j_lcmp rfl (g))))))))))) ?_
  refine J_ite (fun h38 => ?_) (fun h38 => ?_)
  · exact J_some (fun h => j_if_t rfl (lc_gt_t h38) (j_lload rfl rfl (j_ldc2 (10000000000000000 : Int64) rfl kw_10000000000000000 (j_ladd rfl (j_lconst (1 : Int64) rfl kl_1 (j_lsub rfl (j_ldc2 (10000000000000000 : Int64) rfl kw_10000000000000000 (j_ldiv rfl (by decide) (j_lret rfl rfl h)))))))))
  exact J_some (fun h => j_if_f rfl (lc_gt_f h38) (j_lconst (0 : Int64) rfl kl_0 (j_goto rfl (j_lret rfl rfl h))))
theorem t_Rs_sisters {fo : Option Nat} {d : Nat} (hd : 3 ≤ d) {v0 : Nat} {v1 : Int32} {v2 : Int32} {v3 : Int32} {σ σ1 : q_H} {r : Int64} (h : f_Rs_sisters v0 v1 v2 v3 σ = some (r, σ1)) : q_Rel (q_rf fo) q_Ms d 141 [.ref v0, .int v1, .int v2, .int v3] σ (.inl (some (.long r))) σ1 := by
  obtain ⟨d, rfl⟩ : ∃ d1, d = d1 + 1 := ⟨d - 1, by omega⟩
  exact q_Rel.of rfl rfl (b_Rs_sisters hd _ _ _ _ σ _ _ h ⟨rfl, rfl⟩)

def f_Rs_fillFacts (v0 : Nat) (v1 : Int32) (v2 : Nat) (v3 : Int32) (σ : q_H) : Option ((Unit) × q_H) := (q_gr (q_gf σ 8 v2 7)).bind fun x1 => (q_gi (q_ga σ 20 x1 v3)).bind fun x2 => (q_ob σ 8 v2).bind fun w3 => q_sq (f_Pa_has v2 x2 σ) fun x5 σ4 => if x5 = (0 : Int32) then (some ((), σ4)) else ((q_gr (q_gf σ4 0 v0 3)).bind fun x7 => (q_gr (q_gf σ4 2 x7 1)).bind fun x8 => (q_gi (q_ga σ4 20 x8 v1)).bind fun x9 => (q_gr (q_gf σ4 0 v0 9)).bind fun x10 => (q_gr (q_gf σ4 8 v2 5)).bind fun x11 => (q_gi (q_ga σ4 20 x11 x2)).bind fun x12 => (q_gr (q_gf σ4 8 v2 5)).bind fun x13 => (q_gi (q_ga σ4 20 x13 v3)).bind fun x14 => (q_sa σ4 20 x10 (0 : Int32) (.int (x12 - x14))).bind fun σ15 => (q_gr (q_gf σ15 0 v0 9)).bind fun x16 => (q_gr (q_gf σ15 8 v2 5)).bind fun x17 => (q_gi (q_ga σ15 20 x17 x2)).bind fun x18 => (q_sa σ15 20 x16 (1 : Int32) (.int x18)).bind fun σ19 => (q_gr (q_gf σ19 0 v0 9)).bind fun x20 => (q_gr (q_gf σ19 8 v2 5)).bind fun x21 => (q_gi (q_ga σ19 20 x21 v3)).bind fun x22 => (q_sa σ19 20 x20 (2 : Int32) (.int x22)).bind fun σ23 => (q_gr (q_gf σ23 0 v0 9)).bind fun x24 => (q_gr (q_gf σ23 8 v2 9)).bind fun x25 => (q_gi (q_ga σ23 20 x25 v3)).bind fun x26 => q_sq (if x26 = (0 : Int32) then (some ((1 : Int32), σ23)) else (some ((0 : Int32), σ23))) fun (t28 : Int32) σ29 => (q_sa σ29 20 x24 (3 : Int32) (.int t28)).bind fun σ30 => (q_gr (q_gf σ30 0 v0 9)).bind fun x31 => (q_gr (q_gf σ30 8 v2 9)).bind fun x32 => (q_gi (q_ga σ30 20 x32 v3)).bind fun x33 => q_sq (if x33 = (1 : Int32) then (some ((1 : Int32), σ30)) else (some ((0 : Int32), σ30))) fun (t35 : Int32) σ36 => (q_sa σ36 20 x31 (4 : Int32) (.int t35)).bind fun σ37 => (q_gr (q_gf σ37 0 v0 9)).bind fun x38 => (q_gr (q_gf σ37 8 v2 9)).bind fun x39 => (q_gi (q_ga σ37 20 x39 v3)).bind fun x40 => q_sq (if x40 = (2 : Int32) then (some ((1 : Int32), σ37)) else (some ((0 : Int32), σ37))) fun (t42 : Int32) σ43 => (q_sa σ43 20 x38 (5 : Int32) (.int t42)).bind fun σ44 => (q_gr (q_gf σ44 0 v0 9)).bind fun x45 => (q_gr (q_gf σ44 8 v2 9)).bind fun x46 => (q_gi (q_ga σ44 20 x46 v3)).bind fun x47 => q_sq (if x47 = (3 : Int32) then (some ((1 : Int32), σ44)) else (some ((0 : Int32), σ44))) fun (t49 : Int32) σ50 => (q_sa σ50 20 x45 (6 : Int32) (.int t49)).bind fun σ51 => (q_gr (q_gf σ51 0 v0 9)).bind fun x52 => (q_gr (q_gf σ51 8 v2 10)).bind fun x53 => (q_gi (q_ga σ51 20 x53 v3)).bind fun x54 => (q_sa σ51 20 x52 (7 : Int32) (.int (if (0 : Int32) < x54 then x54 else (0 : Int32)))).bind fun σ55 => (q_gr (q_gf σ55 0 v0 9)).bind fun x56 => (q_ob σ55 8 v2).bind fun w57 => q_sq (f_Pa_fullOthers v2 v3 x2 (0 : Int32) σ55) fun x59 σ58 => (q_sa σ58 20 x56 (8 : Int32) (.int x59)).bind fun σ60 => (q_gr (q_gf σ60 0 v0 9)).bind fun x61 => (q_ob σ60 8 v2).bind fun w62 => q_sq (f_Pa_fullOthers v2 x2 v3 (1 : Int32) σ60) fun x64 σ63 => (q_sa σ63 20 x61 (9 : Int32) (.int x64)).bind fun σ65 => (q_gr (q_gf σ65 0 v0 9)).bind fun x66 => (q_sa σ65 20 x66 (10 : Int32) (.int x9)).bind fun σ67 => (q_gr (q_gf σ67 0 v0 9)).bind fun x68 => (q_gr (q_gf σ67 0 v0 3)).bind fun x69 => (q_gr (q_gf σ67 2 x69 5)).bind fun x70 => (q_gi (q_ga σ67 20 x70 x9)).bind fun x71 => (q_sa σ67 20 x68 (11 : Int32) (.int x71)).bind fun σ72 => (q_gr (q_gf σ72 0 v0 9)).bind fun x73 => (q_gr (q_gf σ72 0 v0 3)).bind fun x74 => (q_gr (q_gf σ72 2 x74 2)).bind fun x75 => (q_gi (q_ga σ72 20 x75 v1)).bind fun x76 => (q_sa σ72 20 x73 (12 : Int32) (.int x76)).bind fun σ77 => some ((), σ77))
set_option maxRecDepth 100000 in
theorem b_Rs_fillFacts {fo : Option Nat} {d : Nat} (hd : 3 ≤ d + 1) {o : q_O} {σ' : q_H} (v0 : Nat) (v1 : Int32) (v2 : Nat) (v3 : Int32) (σ : q_H) : q_J (fun (r : Unit) (σ1 : q_H) => o = .inl none ∧ σ' = σ1) (f_Rs_fillFacts v0 v1 v2 v3 σ) (q_G (q_rf fo) d m_Rs_fillFacts o σ' 0 [some (.ref v0), some (.int v1), some (.ref v2), some (.int v3), none, none] [] σ) := by
  unfold f_Rs_fillFacts
  refine J_bind fun x1 hx1 => ?_
  refine J_bind fun x2 hx2 => ?_
  refine J_bind fun w3 hw3 => ?_
  refine J_cl fun x5 σ4 hσ4 => ?_
  refine q_J.step (fun g => j_aload_n rfl rfl (j_gfr rfl hx1 (j_iload_n rfl rfl (j_ial rfl hx2 (j_istore [some (.ref v0), some (.int v1), some (.ref v2), some (.int v3), some (.int x2), none] rfl rfl (Or.inr rfl) rfl (j_aload_n rfl rfl (j_iload rfl rfl (j_v1 [.ref v2, .int x2] [] rfl rfl rfl rfl rfl rfl hw3 (Or.inl rfl) (t_Pa_has (by omega) hσ4) (g))))))))) ?_
  refine J_ite (fun h6 => ?_) (fun h6 => ?_)
  · exact J_some (fun h => j_if_f rfl (cc_ne_f h6) (j_vret rfl rfl h))
  refine J_bind fun x7 hx7 => ?_
  refine J_bind fun x8 hx8 => ?_
  refine J_bind fun x9 hx9 => ?_
  refine J_bind fun x10 hx10 => ?_
  refine J_bind fun x11 hx11 => ?_
  refine J_bind fun x12 hx12 => ?_
  refine J_bind fun x13 hx13 => ?_
  refine J_bind fun x14 hx14 => ?_
  refine J_bind fun σ15 hσ15 => ?_
  refine J_bind fun x16 hx16 => ?_
  refine J_bind fun x17 hx17 => ?_
  refine J_bind fun x18 hx18 => ?_
  refine J_bind fun σ19 hσ19 => ?_
  refine J_bind fun x20 hx20 => ?_
  refine J_bind fun x21 hx21 => ?_
  refine J_bind fun x22 hx22 => ?_
  refine J_bind fun σ23 hσ23 => ?_
  refine J_bind fun x24 hx24 => ?_
  refine J_bind fun x25 hx25 => ?_
  refine J_bind fun x26 hx26 => ?_
  refine q_J.step (fun g => j_if_t rfl (cc_ne_t h6) (j_aload_n rfl rfl (j_gfr rfl hx7 (j_gfr rfl hx8 (j_iload_n rfl rfl (j_ial rfl hx9 (j_istore [some (.ref v0), some (.int v1), some (.ref v2), some (.int v3), some (.int x2), some (.int x9)] rfl rfl (Or.inr rfl) rfl (j_aload_n rfl rfl (j_gfr rfl hx10 (j_iconst (0 : Int32) rfl k32_0 (j_aload_n rfl rfl (j_gfr rfl hx11 (j_iload rfl rfl (j_ial rfl hx12 (g))))))))))))))) ?_
  refine q_J.step (fun g => j_aload_n rfl rfl (j_gfr rfl hx13 (j_iload_n rfl rfl (j_ial rfl hx14 (j_isub rfl (j_ias rfl hσ15 (j_aload_n rfl rfl (j_gfr rfl hx16 (j_iconst (1 : Int32) rfl k32_1 (j_aload_n rfl rfl (j_gfr rfl hx17 (j_iload rfl rfl (j_ial rfl hx18 (j_ias rfl hσ19 (g))))))))))))))) ?_
  refine q_J.step (fun g => j_aload_n rfl rfl (j_gfr rfl hx20 (j_iconst (2 : Int32) rfl k32_2 (j_aload_n rfl rfl (j_gfr rfl hx21 (j_iload_n rfl rfl (j_ial rfl hx22 (j_ias rfl hσ23 (j_aload_n rfl rfl (j_gfr rfl hx24 (j_iconst (3 : Int32) rfl k32_3 (j_aload_n rfl rfl (j_gfr rfl hx25 (j_iload_n rfl rfl (g))))))))))))))) ?_
  refine q_J.step (fun g => j_ial rfl hx26 (g)) ?_
  refine J_sq (fun (t28 : Int32) (σ29 : q_H) => q_G (q_rf fo) d m_Rs_fillFacts o σ' 93 [some (.ref v0), some (.int v1), some (.ref v2), some (.int v3), some (.int x2), some (.int x9)] [.int t28, .int (3 : Int32), .ref x24] σ29) ?_ (fun t28 σ29 => ?_)
  · refine J_ite (fun h27 => ?_) (fun h27 => ?_)
    · exact J_some (fun h => j_if_f rfl (cc_ne_f h27) (j_iconst (1 : Int32) rfl k32_1 (j_goto rfl (h))))
    exact J_some (fun h => j_if_t rfl (cc_ne_t h27) (j_iconst (0 : Int32) rfl k32_0 (h)))
  refine J_bind fun σ30 hσ30 => ?_
  refine J_bind fun x31 hx31 => ?_
  refine J_bind fun x32 hx32 => ?_
  refine J_bind fun x33 hx33 => ?_
  refine q_J.step (fun g => j_ias rfl hσ30 (j_aload_n rfl rfl (j_gfr rfl hx31 (j_iconst (4 : Int32) rfl k32_4 (j_aload_n rfl rfl (j_gfr rfl hx32 (j_iload_n rfl rfl (j_ial rfl hx33 (j_iconst (1 : Int32) rfl k32_1 (g)))))))))) ?_
  refine J_sq (fun (t35 : Int32) (σ36 : q_H) => q_G (q_rf fo) d m_Rs_fillFacts o σ' 114 [some (.ref v0), some (.int v1), some (.ref v2), some (.int v3), some (.int x2), some (.int x9)] [.int t35, .int (4 : Int32), .ref x31] σ36) ?_ (fun t35 σ36 => ?_)
  · refine J_ite (fun h34 => ?_) (fun h34 => ?_)
    · exact J_some (fun h => j_icmp_f rfl (cc_ne_f h34) (j_iconst (1 : Int32) rfl k32_1 (j_goto rfl (h))))
    exact J_some (fun h => j_icmp_t rfl (cc_ne_t h34) (j_iconst (0 : Int32) rfl k32_0 (h)))
  refine J_bind fun σ37 hσ37 => ?_
  refine J_bind fun x38 hx38 => ?_
  refine J_bind fun x39 hx39 => ?_
  refine J_bind fun x40 hx40 => ?_
  refine q_J.step (fun g => j_ias rfl hσ37 (j_aload_n rfl rfl (j_gfr rfl hx38 (j_iconst (5 : Int32) rfl k32_5 (j_aload_n rfl rfl (j_gfr rfl hx39 (j_iload_n rfl rfl (j_ial rfl hx40 (j_iconst (2 : Int32) rfl k32_2 (g)))))))))) ?_
  refine J_sq (fun (t42 : Int32) (σ43 : q_H) => q_G (q_rf fo) d m_Rs_fillFacts o σ' 135 [some (.ref v0), some (.int v1), some (.ref v2), some (.int v3), some (.int x2), some (.int x9)] [.int t42, .int (5 : Int32), .ref x38] σ43) ?_ (fun t42 σ43 => ?_)
  · refine J_ite (fun h41 => ?_) (fun h41 => ?_)
    · exact J_some (fun h => j_icmp_f rfl (cc_ne_f h41) (j_iconst (1 : Int32) rfl k32_1 (j_goto rfl (h))))
    exact J_some (fun h => j_icmp_t rfl (cc_ne_t h41) (j_iconst (0 : Int32) rfl k32_0 (h)))
  refine J_bind fun σ44 hσ44 => ?_
  refine J_bind fun x45 hx45 => ?_
  refine J_bind fun x46 hx46 => ?_
  refine J_bind fun x47 hx47 => ?_
  refine q_J.step (fun g => j_ias rfl hσ44 (j_aload_n rfl rfl (j_gfr rfl hx45 (j_bipush (6 : Int32) rfl kb_6 (j_aload_n rfl rfl (j_gfr rfl hx46 (j_iload_n rfl rfl (j_ial rfl hx47 (j_iconst (3 : Int32) rfl k32_3 (g)))))))))) ?_
  refine J_sq (fun (t49 : Int32) (σ50 : q_H) => q_G (q_rf fo) d m_Rs_fillFacts o σ' 157 [some (.ref v0), some (.int v1), some (.ref v2), some (.int v3), some (.int x2), some (.int x9)] [.int t49, .int (6 : Int32), .ref x45] σ50) ?_ (fun t49 σ50 => ?_)
  · refine J_ite (fun h48 => ?_) (fun h48 => ?_)
    · exact J_some (fun h => j_icmp_f rfl (cc_ne_f h48) (j_iconst (1 : Int32) rfl k32_1 (j_goto rfl (h))))
    exact J_some (fun h => j_icmp_t rfl (cc_ne_t h48) (j_iconst (0 : Int32) rfl k32_0 (h)))
  refine J_bind fun σ51 hσ51 => ?_
  refine J_bind fun x52 hx52 => ?_
  refine J_bind fun x53 hx53 => ?_
  refine J_bind fun x54 hx54 => ?_
  refine J_bind fun σ55 hσ55 => ?_
  refine J_bind fun x56 hx56 => ?_
  refine J_bind fun w57 hw57 => ?_
  refine J_cl fun x59 σ58 hσ58 => ?_
  refine J_bind fun σ60 hσ60 => ?_
  refine J_bind fun x61 hx61 => ?_
  refine J_bind fun w62 hw62 => ?_
  refine J_cl fun x64 σ63 hσ63 => ?_
  refine J_bind fun σ65 hσ65 => ?_
  refine J_bind fun x66 hx66 => ?_
  refine J_bind fun σ67 hσ67 => ?_
  refine J_bind fun x68 hx68 => ?_
  refine J_bind fun x69 hx69 => ?_
  refine J_bind fun x70 hx70 => ?_
  refine J_bind fun x71 hx71 => ?_
  refine J_bind fun σ72 hσ72 => ?_
  refine J_bind fun x73 hx73 => ?_
  refine J_bind fun x74 hx74 => ?_
  refine J_bind fun x75 hx75 => ?_
  refine J_bind fun x76 hx76 => ?_
  refine J_bind fun σ77 hσ77 => ?_
  exact J_some (fun h => j_ias rfl hσ51 (j_aload_n rfl rfl (j_gfr rfl hx52 (j_bipush (7 : Int32) rfl kb_7 (j_iconst (0 : Int32) rfl k32_0 (j_aload_n rfl rfl (j_gfr rfl hx53 (j_iload_n rfl rfl (j_ial rfl hx54 (j_max rfl rfl (j_ias rfl hσ55 (j_aload_n rfl rfl (j_gfr rfl hx56 (j_bipush (8 : Int32) rfl kb_8 (j_aload_n rfl rfl (j_iload_n rfl rfl (j_iload rfl rfl (j_iconst (0 : Int32) rfl k32_0 (j_v1 [.ref v2, .int v3, .int x2, .int (0 : Int32)] [.int (8 : Int32), .ref x56] rfl rfl rfl rfl rfl rfl hw57 (Or.inl rfl) (t_Pa_fullOthers (by omega) hσ58) (j_ias rfl hσ60 (j_aload_n rfl rfl (j_gfr rfl hx61 (j_bipush (9 : Int32) rfl kb_9 (j_aload_n rfl rfl (j_iload rfl rfl (j_iload_n rfl rfl (j_iconst (1 : Int32) rfl k32_1 (j_v1 [.ref v2, .int x2, .int v3, .int (1 : Int32)] [.int (9 : Int32), .ref x61] rfl rfl rfl rfl rfl rfl hw62 (Or.inl rfl) (t_Pa_fullOthers (by omega) hσ63) (j_ias rfl hσ65 (j_aload_n rfl rfl (j_gfr rfl hx66 (j_bipush (10 : Int32) rfl kb_10 (j_iload rfl rfl (j_ias rfl hσ67 (j_aload_n rfl rfl (j_gfr rfl hx68 (j_bipush (11 : Int32) rfl kb_11 (j_aload_n rfl rfl (j_gfr rfl hx69 (j_gfr rfl hx70 (j_iload rfl rfl (j_ial rfl hx71 (j_ias rfl hσ72 (j_aload_n rfl rfl (j_gfr rfl hx73 (j_bipush (12 : Int32) rfl kb_12 (j_aload_n rfl rfl (j_gfr rfl hx74 (j_gfr rfl hx75 (j_iload_n rfl rfl (j_ial rfl hx76 (j_ias rfl hσ77 (j_vret rfl rfl h)))))))))))))))))))))))))))))))))))))))))))))))))))))
theorem t_Rs_fillFacts {fo : Option Nat} {d : Nat} (hd : 3 ≤ d) {v0 : Nat} {v1 : Int32} {v2 : Nat} {v3 : Int32} {σ σ1 : q_H} {r : Unit} (h : f_Rs_fillFacts v0 v1 v2 v3 σ = some (r, σ1)) : q_Rel (q_rf fo) q_Ms d 146 [.ref v0, .int v1, .ref v2, .int v3] σ (.inl none) σ1 := by
  obtain ⟨d, rfl⟩ : ∃ d1, d = d1 + 1 := ⟨d - 1, by omega⟩
  exact q_Rel.of rfl rfl (b_Rs_fillFacts hd _ _ _ _ σ _ _ h ⟨rfl, rfl⟩)

def f_Rs_isWorld (v0 : Int32) (v1 : Int32) (v2 : Int32) (v3 : Int32) (σ : q_H) : Option ((Int32) × q_H) := q_sq (f_Rs_isFrom (1 : Int32) v0 (40 : Int32) σ) fun x2 σ1 => if x2 = (0 : Int32) then (some ((0 : Int32), σ1)) else (q_sq (f_Rs_isTable v1 σ1) fun x5 σ4 => if x5 = (0 : Int32) then (some ((0 : Int32), σ4)) else (q_sq (f_Rs_isFrom (0 : Int32) v2 (30 : Int32) σ4) fun x8 σ7 => if x8 = (0 : Int32) then (some ((0 : Int32), σ7)) else (q_sq (f_Rs_isFrom (0 : Int32) v3 (10 : Int32) σ7) fun x11 σ10 => if x11 = (0 : Int32) then (some ((0 : Int32), σ10)) else (some ((1 : Int32), σ10)))))
set_option maxRecDepth 100000 in
theorem b_Rs_isWorld {fo : Option Nat} {d : Nat} (hd : 3 ≤ d + 1) {o : q_O} {σ' : q_H} (v0 : Int32) (v1 : Int32) (v2 : Int32) (v3 : Int32) (σ : q_H) : q_J (fun (r : Int32) (σ1 : q_H) => o = .inl (some (.int r)) ∧ σ' = σ1) (f_Rs_isWorld v0 v1 v2 v3 σ) (q_G (q_rf fo) d m_Rs_isWorld o σ' 0 [some (.int v0), some (.int v1), some (.int v2), some (.int v3)] [] σ) := by
  unfold f_Rs_isWorld
  refine J_cl fun x2 σ1 hσ1 => ?_
  refine q_J.step (fun g => j_iconst (1 : Int32) rfl k32_1 (j_iload_n rfl rfl (j_bipush (40 : Int32) rfl kb_40 (j_s1 [.int (1 : Int32), .int v0, .int (40 : Int32)] [] rfl rfl rfl rfl rfl (t_Rs_isFrom (by omega) hσ1) (g))))) ?_
  refine J_ite (fun h3 => ?_) (fun h3 => ?_)
  · exact J_some (fun h => j_if_t rfl (cc_eq_t h3) (j_iconst (0 : Int32) rfl k32_0 (j_iret rfl (q_zr (Or.inl rfl)) h)))
  refine J_cl fun x5 σ4 hσ4 => ?_
  refine q_J.step (fun g => j_if_f rfl (cc_eq_f h3) (j_iload_n rfl rfl (j_s1 [.int v1] [] rfl rfl rfl rfl rfl (t_Rs_isTable (by omega) hσ4) (g)))) ?_
  refine J_ite (fun h6 => ?_) (fun h6 => ?_)
  · exact J_some (fun h => j_if_t rfl (cc_eq_t h6) (j_iconst (0 : Int32) rfl k32_0 (j_iret rfl (q_zr (Or.inl rfl)) h)))
  refine J_cl fun x8 σ7 hσ7 => ?_
  refine q_J.step (fun g => j_if_f rfl (cc_eq_f h6) (j_iconst (0 : Int32) rfl k32_0 (j_iload_n rfl rfl (j_bipush (30 : Int32) rfl kb_30 (j_s1 [.int (0 : Int32), .int v2, .int (30 : Int32)] [] rfl rfl rfl rfl rfl (t_Rs_isFrom (by omega) hσ7) (g)))))) ?_
  refine J_ite (fun h9 => ?_) (fun h9 => ?_)
  · exact J_some (fun h => j_if_t rfl (cc_eq_t h9) (j_iconst (0 : Int32) rfl k32_0 (j_iret rfl (q_zr (Or.inl rfl)) h)))
  refine J_cl fun x11 σ10 hσ10 => ?_
  refine q_J.step (fun g => j_if_f rfl (cc_eq_f h9) (j_iconst (0 : Int32) rfl k32_0 (j_iload_n rfl rfl (j_bipush (10 : Int32) rfl kb_10 (j_s1 [.int (0 : Int32), .int v3, .int (10 : Int32)] [] rfl rfl rfl rfl rfl (t_Rs_isFrom (by omega) hσ10) (g)))))) ?_
  refine J_ite (fun h12 => ?_) (fun h12 => ?_)
  · exact J_some (fun h => j_if_t rfl (cc_eq_t h12) (j_iconst (0 : Int32) rfl k32_0 (j_iret rfl (q_zr (Or.inl rfl)) h)))
  exact J_some (fun h => j_if_f rfl (cc_eq_f h12) (j_iconst (1 : Int32) rfl k32_1 (j_goto rfl (j_iret rfl (q_zr (Or.inr rfl)) h))))
theorem t_Rs_isWorld {fo : Option Nat} {d : Nat} (hd : 3 ≤ d) {v0 : Int32} {v1 : Int32} {v2 : Int32} {v3 : Int32} {σ σ1 : q_H} {r : Int32} (h : f_Rs_isWorld v0 v1 v2 v3 σ = some (r, σ1)) : q_Rel (q_rf fo) q_Ms d 152 [.int v0, .int v1, .int v2, .int v3] σ (.inl (some (.int r))) σ1 := by
  obtain ⟨d, rfl⟩ : ∃ d1, d = d1 + 1 := ⟨d - 1, by omega⟩
  exact q_Rel.of rfl rfl (b_Rs_isWorld hd _ _ _ _ σ _ _ h ⟨rfl, rfl⟩)

def f_Rs_unfreeMarriages_L22 (v0 : Nat) (v2 : Int32) (v3 : Option Nat) : Nat → Int32 → Int32 → q_H → Option ((Int32) × q_H)
  | 0, _, _, _ => none
  | n + 1, v1, v4, σ => match v3 with | none => (some (v1, σ)) | some a6 => ((q_gi (q_gf σ 8 a6 0)).bind fun x7 => if v4 < x7 then ((q_gr (q_gf σ 8 a6 7)).bind fun x9 => (q_gi (q_ga σ 20 x9 v4)).bind fun x10 => (q_ob σ 8 a6).bind fun w11 => q_sq (f_Pa_has a6 x10 σ) fun x13 σ12 => if x13 = (0 : Int32) then (f_Rs_unfreeMarriages_L22 v0 v2 v3 n v1 (v4 + (1 : Int32)) σ12) else ((q_gr (q_gf σ12 8 a6 6)).bind fun x15 => (q_gi (q_ga σ12 20 x15 v4)).bind fun x16 => (q_gr (q_gf σ12 8 a6 6)).bind fun x17 => (q_gi (q_ga σ12 20 x17 x10)).bind fun x18 => if ((x16 ||| x18) &&& (12 : Int32)) = (0 : Int32) then (f_Rs_unfreeMarriages_L22 v0 v2 v3 n (v1 + (0 : Int32)) (v4 + (1 : Int32)) σ12) else (f_Rs_unfreeMarriages_L22 v0 v2 v3 n (v1 + (1 : Int32)) (v4 + (1 : Int32)) σ12))) else (some (v1, σ)))
set_option maxRecDepth 100000 in
theorem l_Rs_unfreeMarriages_L22 {fo : Option Nat} {d : Nat} (hd : 3 ≤ d + 1) {o : q_O} {σ' : q_H} {E : (Int32) → q_H → Prop} (v0 : Nat) (v2 : Int32) (v3 : Option Nat) (hX : ∀ (t : Int32) σ1, E (t) σ1 → q_G (q_rf fo) d m_Rs_unfreeMarriages o σ' 88 [some (.ref v0), some (.int t), some (.int v2), none, none, none] [] σ1)  : ∀ (n : Nat) (v1 : Int32) (v4 : Int32) (σ : q_H), q_J E (f_Rs_unfreeMarriages_L22 v0 v2 v3 n v1 v4 σ) (q_G (q_rf fo) d m_Rs_unfreeMarriages o σ' 22 [some (.ref v0), some (.int v1), some (.int v2), some (q_rf v3), some (.int v4), none] [] σ)
  | 0, v1, v4, σ => J_none
  | n + 1, v1, v4, σ => by
    unfold f_Rs_unfreeMarriages_L22
    refine q_J.step (fun g => j_aload_nO (x := v3) rfl rfl (g)) ?_
    cases ha6 : v3 with
    | none =>
      try subst ha6
      exact J_some (fun h => j_nul_t rfl (j_weak (l := [some (.ref v0), some (.int v1), some (.int v2), none, none, none]) (And.intro (Or.inr rfl) (And.intro (Or.inr rfl) (And.intro (Or.inr rfl) (And.intro (Or.inl rfl) (And.intro (Or.inl rfl) (And.intro (Or.inr rfl) True.intro)))))) (hX _ _ h)))
    | some a6 =>
      try subst ha6
      refine J_bind fun x7 hx7 => ?_
      refine q_J.step (fun g => j_nul_f rfl (j_iload rfl rfl (j_aload_n rfl rfl (j_gfi rfl hx7 (g))))) ?_
      refine J_ite (fun h8 => ?_) (fun h8 => ?_)
      · refine J_bind fun x9 hx9 => ?_
        refine J_bind fun x10 hx10 => ?_
        refine J_bind fun w11 hw11 => ?_
        refine J_cl fun x13 σ12 hσ12 => ?_
        refine q_J.step (fun g => j_icmp_f rfl (cc_ge_f h8) (j_aload_n rfl rfl (j_gfr rfl hx9 (j_iload rfl rfl (j_ial rfl hx10 (j_istore [some (.ref v0), some (.int v1), some (.int v2), some (.ref a6), some (.int v4), some (.int x10)] rfl rfl (Or.inr rfl) rfl (j_aload_n rfl rfl (j_iload rfl rfl (j_v1 [.ref a6, .int x10] [] rfl rfl rfl rfl rfl rfl hw11 (Or.inl rfl) (t_Pa_has (by omega) hσ12) (g)))))))))) ?_
        refine J_ite (fun h14 => ?_) (fun h14 => ?_)
        · exact q_J.step (fun g => j_if_t rfl (cc_eq_t h14) (j_iinc [some (.ref v0), some (.int v1), some (.int v2), some (.ref a6), some (.int (v4 + (1 : Int32))), some (.int x10)] (v4 + (1 : Int32)) rfl rfl (by rw [k32_1]) (Or.inr rfl) rfl (j_goto rfl (j_weak (l := [some (.ref v0), some (.int v1), some (.int v2), some (.ref a6), some (.int (v4 + (1 : Int32))), none]) (And.intro (Or.inr rfl) (And.intro (Or.inr rfl) (And.intro (Or.inr rfl) (And.intro (Or.inr rfl) (And.intro (Or.inr rfl) (And.intro (Or.inl rfl) True.intro)))))) (g))))) (l_Rs_unfreeMarriages_L22 hd v0 v2 (some a6) hX n v1 (v4 + (1 : Int32)) σ12)
        refine J_bind fun x15 hx15 => ?_
        refine J_bind fun x16 hx16 => ?_
        refine J_bind fun x17 hx17 => ?_
        refine J_bind fun x18 hx18 => ?_
        refine q_J.step (fun g => j_if_f rfl (cc_eq_f h14) (j_iload_n rfl rfl (j_aload_n rfl rfl (j_gfr rfl hx15 (j_iload rfl rfl (j_ial rfl hx16 (j_aload_n rfl rfl (j_gfr rfl hx17 (j_iload rfl rfl (j_ial rfl hx18 (j_ior rfl (j_bipush (12 : Int32) rfl kb_12 (j_iand rfl (g)))))))))))))) ?_
        refine J_ite (fun h19 => ?_) (fun h19 => ?_)
        · exact q_J.step (fun g => j_if_t rfl (cc_eq_t h19) (j_iconst (0 : Int32) rfl k32_0 (j_iadd rfl (j_istore_n [some (.ref v0), some (.int (v1 + (0 : Int32))), some (.int v2), some (.ref a6), some (.int v4), some (.int x10)] rfl rfl (Or.inr rfl) rfl (j_iinc [some (.ref v0), some (.int (v1 + (0 : Int32))), some (.int v2), some (.ref a6), some (.int (v4 + (1 : Int32))), some (.int x10)] (v4 + (1 : Int32)) rfl rfl (by rw [k32_1]) (Or.inr rfl) rfl (j_goto rfl (j_weak (l := [some (.ref v0), some (.int (v1 + (0 : Int32))), some (.int v2), some (.ref a6), some (.int (v4 + (1 : Int32))), none]) (And.intro (Or.inr rfl) (And.intro (Or.inr rfl) (And.intro (Or.inr rfl) (And.intro (Or.inr rfl) (And.intro (Or.inr rfl) (And.intro (Or.inl rfl) True.intro)))))) (g)))))))) (l_Rs_unfreeMarriages_L22 hd v0 v2 (some a6) hX n (v1 + (0 : Int32)) (v4 + (1 : Int32)) σ12)
        exact q_J.step (fun g => j_if_f rfl (cc_eq_f h19) (j_iconst (1 : Int32) rfl k32_1 (j_goto rfl (j_iadd rfl (j_istore_n [some (.ref v0), some (.int (v1 + (1 : Int32))), some (.int v2), some (.ref a6), some (.int v4), some (.int x10)] rfl rfl (Or.inr rfl) rfl (j_iinc [some (.ref v0), some (.int (v1 + (1 : Int32))), some (.int v2), some (.ref a6), some (.int (v4 + (1 : Int32))), some (.int x10)] (v4 + (1 : Int32)) rfl rfl (by rw [k32_1]) (Or.inr rfl) rfl (j_goto rfl (j_weak (l := [some (.ref v0), some (.int (v1 + (1 : Int32))), some (.int v2), some (.ref a6), some (.int (v4 + (1 : Int32))), none]) (And.intro (Or.inr rfl) (And.intro (Or.inr rfl) (And.intro (Or.inr rfl) (And.intro (Or.inr rfl) (And.intro (Or.inr rfl) (And.intro (Or.inl rfl) True.intro)))))) (g))))))))) (l_Rs_unfreeMarriages_L22 hd v0 v2 (some a6) hX n (v1 + (1 : Int32)) (v4 + (1 : Int32)) σ12)
      exact J_some (fun h => j_icmp_t rfl (cc_ge_t h8) (j_weak (l := [some (.ref v0), some (.int v1), some (.int v2), none, none, none]) (And.intro (Or.inr rfl) (And.intro (Or.inr rfl) (And.intro (Or.inr rfl) (And.intro (Or.inl rfl) (And.intro (Or.inl rfl) (And.intro (Or.inr rfl) True.intro)))))) (hX _ _ h)))

def f_Rs_unfreeMarriages_L4 (v0 : Nat) : Nat → Int32 → Int32 → q_H → Option ((Int32) × q_H)
  | 0, _, _, _ => none
  | n + 1, v1, v2, σ => if v2 < (24 : Int32) then ((q_gr (q_gf σ 0 v0 3)).bind fun x2 => (q_ob σ 2 x2).bind fun w3 => q_sq (f_Sf_pageOf x2 v2 σ) fun x5 σ4 => q_sq (f_Rs_unfreeMarriages_L22 v0 v2 x5 q_FU v1 (0 : Int32) σ4) fun (t20 : Int32) σ21 => f_Rs_unfreeMarriages_L4 v0 n t20 (v2 + (1 : Int32)) σ21) else (some (v1, σ))
set_option maxRecDepth 100000 in
theorem l_Rs_unfreeMarriages_L4 {fo : Option Nat} {d : Nat} (hd : 3 ≤ d + 1) {o : q_O} {σ' : q_H} {E : (Int32) → q_H → Prop} (v0 : Nat) (hX : ∀ (t : Int32) σ1, E (t) σ1 → q_G (q_rf fo) d m_Rs_unfreeMarriages o σ' 94 [none, some (.int t), none, none, none, none] [] σ1)  : ∀ (n : Nat) (v1 : Int32) (v2 : Int32) (σ : q_H), q_J E (f_Rs_unfreeMarriages_L4 v0 n v1 v2 σ) (q_G (q_rf fo) d m_Rs_unfreeMarriages o σ' 4 [some (.ref v0), some (.int v1), some (.int v2), none, none, none] [] σ)
  | 0, v1, v2, σ => J_none
  | n + 1, v1, v2, σ => by
    unfold f_Rs_unfreeMarriages_L4
    refine q_J.step (fun g => j_iload_n rfl rfl (j_bipush (24 : Int32) rfl kb_24 (g))) ?_
    refine J_ite (fun h1 => ?_) (fun h1 => ?_)
    · refine J_bind fun x2 hx2 => ?_
      refine J_bind fun w3 hw3 => ?_
      refine J_cl fun x5 σ4 hσ4 => ?_
      refine J_sq (fun (t20 : Int32) (σ21 : q_H) => q_G (q_rf fo) d m_Rs_unfreeMarriages o σ' 88 [some (.ref v0), some (.int t20), some (.int v2), none, none, none] [] σ21) (q_J.step (fun g => j_icmp_f rfl (cc_ge_f h1) (j_aload_n rfl rfl (j_gfr rfl hx2 (j_iload_n rfl rfl (j_v1 [.ref x2, .int v2] [] rfl rfl rfl rfl rfl rfl hw3 (Or.inl rfl) (t_Sf_pageOf (by omega) hσ4) (j_astore_nO (x := x5) [some (.ref v0), some (.int v1), some (.int v2), some (q_rf x5), none, none] rfl rfl (Or.inr rfl) rfl (j_iconst (0 : Int32) rfl k32_0 (j_istore [some (.ref v0), some (.int v1), some (.int v2), some (q_rf x5), some (.int (0 : Int32)), none] rfl rfl (Or.inr (q_rf_cat _)) rfl (g))))))))) (l_Rs_unfreeMarriages_L22 hd v0 v2 x5 (fun _ _ h => h) q_FU v1 (0 : Int32) σ4)) (fun t20 σ21 => ?_)
      exact q_J.step (fun g => j_iinc [some (.ref v0), some (.int t20), some (.int (v2 + (1 : Int32))), none, none, none] (v2 + (1 : Int32)) rfl rfl (by rw [k32_1]) (Or.inr rfl) rfl (j_goto rfl (g))) (l_Rs_unfreeMarriages_L4 hd v0 hX n t20 (v2 + (1 : Int32)) σ21)
    exact J_some (fun h => j_icmp_t rfl (cc_ge_t h1) (j_weak (l := [none, some (.int v1), none, none, none, none]) (And.intro (Or.inl rfl) (And.intro (Or.inr rfl) (And.intro (Or.inl rfl) (And.intro (Or.inr rfl) (And.intro (Or.inr rfl) (And.intro (Or.inr rfl) True.intro)))))) (hX _ _ h)))

def f_Rs_unfreeMarriages (v0 : Nat) (σ : q_H) : Option ((Int32) × q_H) := q_sq (f_Rs_unfreeMarriages_L4 v0 q_FU (0 : Int32) (0 : Int32) σ) fun (t22 : Int32) σ23 => some (t22, σ23)
set_option maxRecDepth 100000 in
theorem b_Rs_unfreeMarriages {fo : Option Nat} {d : Nat} (hd : 3 ≤ d + 1) {o : q_O} {σ' : q_H} (v0 : Nat) (σ : q_H) : q_J (fun (r : Int32) (σ1 : q_H) => o = .inl (some (.int r)) ∧ σ' = σ1) (f_Rs_unfreeMarriages v0 σ) (q_G (q_rf fo) d m_Rs_unfreeMarriages o σ' 0 [some (.ref v0), none, none, none, none, none] [] σ) := by
  unfold f_Rs_unfreeMarriages
  refine J_sq (fun (t22 : Int32) (σ23 : q_H) => q_G (q_rf fo) d m_Rs_unfreeMarriages o σ' 94 [none, some (.int t22), none, none, none, none] [] σ23) (q_J.step (fun g => j_iconst (0 : Int32) rfl k32_0 (j_istore_n [some (.ref v0), some (.int (0 : Int32)), none, none, none, none] rfl rfl (Or.inr rfl) rfl (j_iconst (0 : Int32) rfl k32_0 (j_istore_n [some (.ref v0), some (.int (0 : Int32)), some (.int (0 : Int32)), none, none, none] rfl rfl (Or.inr rfl) rfl (g))))) (l_Rs_unfreeMarriages_L4 hd v0 (fun _ _ h => h) q_FU (0 : Int32) (0 : Int32) σ)) (fun t22 σ23 => ?_)
  exact J_some (fun h => j_iload_n rfl rfl (j_iret rfl rfl h))
theorem t_Rs_unfreeMarriages {fo : Option Nat} {d : Nat} (hd : 3 ≤ d) {v0 : Nat} {σ σ1 : q_H} {r : Int32} (h : f_Rs_unfreeMarriages v0 σ = some (r, σ1)) : q_Rel (q_rf fo) q_Ms d 164 [.ref v0] σ (.inl (some (.int r))) σ1 := by
  obtain ⟨d, rfl⟩ : ∃ d1, d = d1 + 1 := ⟨d - 1, by omega⟩
  exact q_Rel.of rfl rfl (b_Rs_unfreeMarriages hd _ σ _ _ h ⟨rfl, rfl⟩)

def f_Pa_settle_L2 (v0 : Nat) : Nat → Int32 → q_H → Option ((Unit) × q_H)
  | 0, _, _ => none
  | n + 1, v1, σ => (q_gi (q_gf σ 8 v0 0)).bind fun x1 => if v1 < x1 then ((q_gr (q_gf σ 8 v0 9)).bind fun x3 => (q_sa σ 20 x3 v1 (.int (-1 : Int32))).bind fun σ4 => (q_gr (q_gf σ4 8 v0 10)).bind fun x5 => (q_sa σ4 20 x5 v1 (.int (-1 : Int32))).bind fun σ6 => (q_gr (q_gf σ6 8 v0 7)).bind fun x7 => (q_gi (q_ga σ6 20 x7 v1)).bind fun x8 => (q_ob σ6 8 v0).bind fun w9 => q_sq (f_Pa_has v0 x8 σ6) fun x11 σ10 => if x11 = (0 : Int32) then (f_Pa_settle_L2 v0 n (v1 + (1 : Int32)) σ10) else ((q_gr (q_gf σ10 8 v0 9)).bind fun x13 => (q_gr (q_gf σ10 8 v0 7)).bind fun x14 => (q_gi (q_ga σ10 20 x14 v1)).bind fun x15 => (q_ob σ10 8 v0).bind fun w16 => q_sq (f_Pa_sortOf v0 v1 x15 σ10) fun x18 σ17 => (q_sa σ17 20 x13 v1 (.int x18)).bind fun σ19 => (q_gr (q_gf σ19 8 v0 10)).bind fun x20 => (q_gr (q_gf σ19 8 v0 7)).bind fun x21 => (q_gi (q_ga σ19 20 x21 v1)).bind fun x22 => (q_ob σ19 8 v0).bind fun w23 => q_sq (f_Pa_adoptedOf v0 v1 x22 σ19) fun x25 σ24 => (q_sa σ24 20 x20 v1 (.int x25)).bind fun σ26 => (q_gr (q_gf σ26 8 v0 11)).bind fun x27 => (q_gr (q_gf σ26 8 v0 9)).bind fun x28 => (q_gi (q_ga σ26 20 x28 v1)).bind fun x29 => (q_gr (q_gf σ26 8 v0 10)).bind fun x30 => (q_gi (q_ga σ26 20 x30 v1)).bind fun x31 => (q_ob σ26 9 x27).bind fun w32 => q_sq (f_Ty_put x27 x29 (if (0 : Int32) < x31 then x31 else (0 : Int32)) σ26) fun (_ : Unit) σ33 => f_Pa_settle_L2 v0 n (v1 + (1 : Int32)) σ33)) else (some ((), σ))
set_option maxRecDepth 100000 in
theorem l_Pa_settle_L2 {fo : Option Nat} {d : Nat} (hd : 4 ≤ d + 1) {o : q_O} {σ' : q_H} {E : (Unit) → q_H → Prop} (v0 : Nat) (hX : ∀ (t : Unit) σ1, E (t) σ1 → q_G (q_rf fo) d m_Pa_settle o σ' 100 [none, none] [] σ1)  : ∀ (n : Nat) (v1 : Int32) (σ : q_H), q_J E (f_Pa_settle_L2 v0 n v1 σ) (q_G (q_rf fo) d m_Pa_settle o σ' 2 [some (.ref v0), some (.int v1)] [] σ)
  | 0, v1, σ => J_none
  | n + 1, v1, σ => by
    unfold f_Pa_settle_L2
    refine J_bind fun x1 hx1 => ?_
    refine q_J.step (fun g => j_iload_n rfl rfl (j_aload_n rfl rfl (j_gfi rfl hx1 (g)))) ?_
    refine J_ite (fun h2 => ?_) (fun h2 => ?_)
    · refine J_bind fun x3 hx3 => ?_
      refine J_bind fun σ4 hσ4 => ?_
      refine J_bind fun x5 hx5 => ?_
      refine J_bind fun σ6 hσ6 => ?_
      refine J_bind fun x7 hx7 => ?_
      refine J_bind fun x8 hx8 => ?_
      refine J_bind fun w9 hw9 => ?_
      refine J_cl fun x11 σ10 hσ10 => ?_
      refine q_J.step (fun g => j_icmp_f rfl (cc_ge_f h2) (j_aload_n rfl rfl (j_gfr rfl hx3 (j_iload_n rfl rfl (j_iconst (-1 : Int32) rfl k32_m1 (j_ias rfl hσ4 (j_aload_n rfl rfl (j_gfr rfl hx5 (j_iload_n rfl rfl (j_iconst (-1 : Int32) rfl k32_m1 (j_ias rfl hσ6 (j_aload_n rfl rfl (j_aload_n rfl rfl (j_gfr rfl hx7 (g))))))))))))))) ?_
      refine q_J.step (fun g => j_iload_n rfl rfl (j_ial rfl hx8 (j_v1 [.ref v0, .int x8] [] rfl rfl rfl rfl rfl rfl hw9 (Or.inl rfl) (t_Pa_has (by omega) hσ10) (g)))) ?_
      refine J_ite (fun h12 => ?_) (fun h12 => ?_)
      · exact q_J.step (fun g => j_if_t rfl (cc_eq_t h12) (j_iinc [some (.ref v0), some (.int (v1 + (1 : Int32)))] (v1 + (1 : Int32)) rfl rfl (by rw [k32_1]) (Or.inr rfl) rfl (j_goto rfl (g)))) (l_Pa_settle_L2 hd v0 hX n (v1 + (1 : Int32)) σ10)
      refine J_bind fun x13 hx13 => ?_
      refine J_bind fun x14 hx14 => ?_
      refine J_bind fun x15 hx15 => ?_
      refine J_bind fun w16 hw16 => ?_
      refine J_cl fun x18 σ17 hσ17 => ?_
      refine J_bind fun σ19 hσ19 => ?_
      refine J_bind fun x20 hx20 => ?_
      refine J_bind fun x21 hx21 => ?_
      refine J_bind fun x22 hx22 => ?_
      refine J_bind fun w23 hw23 => ?_
      refine J_cl fun x25 σ24 hσ24 => ?_
      refine J_bind fun σ26 hσ26 => ?_
      refine J_bind fun x27 hx27 => ?_
      refine J_bind fun x28 hx28 => ?_
      refine J_bind fun x29 hx29 => ?_
      refine J_bind fun x30 hx30 => ?_
      refine J_bind fun x31 hx31 => ?_
      refine J_bind fun w32 hw32 => ?_
      refine J_cl fun _ σ33 hσ33 => ?_
      exact q_J.step (fun g => j_if_f rfl (cc_eq_f h12) (j_aload_n rfl rfl (j_gfr rfl hx13 (j_iload_n rfl rfl (j_aload_n rfl rfl (j_iload_n rfl rfl (j_aload_n rfl rfl (j_gfr rfl hx14 (j_iload_n rfl rfl (j_ial rfl hx15 (j_v1 [.ref v0, .int v1, .int x15] [.int v1, .ref x13] rfl rfl rfl rfl rfl rfl hw16 (Or.inl rfl) (t_Pa_sortOf (by omega) hσ17) (j_ias rfl hσ19 (j_aload_n rfl rfl (j_gfr rfl hx20 (j_iload_n rfl rfl (j_aload_n rfl rfl (j_iload_n rfl rfl (j_aload_n rfl rfl (j_gfr rfl hx21 (j_iload_n rfl rfl (j_ial rfl hx22 (j_v1 [.ref v0, .int v1, .int x22] [.int v1, .ref x20] rfl rfl rfl rfl rfl rfl hw23 (Or.inl rfl) (t_Pa_adoptedOf (by omega) hσ24) (j_ias rfl hσ26 (j_aload_n rfl rfl (j_gfr rfl hx27 (j_aload_n rfl rfl (j_gfr rfl hx28 (j_iload_n rfl rfl (j_ial rfl hx29 (j_iconst (0 : Int32) rfl k32_0 (j_aload_n rfl rfl (j_gfr rfl hx30 (j_iload_n rfl rfl (j_ial rfl hx31 (j_max rfl rfl (j_v0 [.ref x27, .int x29, .int (if (0 : Int32) < x31 then x31 else (0 : Int32))] [] rfl rfl rfl rfl rfl rfl hw32 (Or.inl rfl) (t_Ty_put (by omega) hσ33) (j_iinc [some (.ref v0), some (.int (v1 + (1 : Int32)))] (v1 + (1 : Int32)) rfl rfl (by rw [k32_1]) (Or.inr rfl) rfl (j_goto rfl (g))))))))))))))))))))))))))))))))))))))) (l_Pa_settle_L2 hd v0 hX n (v1 + (1 : Int32)) σ33)
    exact J_some (fun h => j_icmp_t rfl (cc_ge_t h2) (j_weak (l := [none, none]) (And.intro (Or.inl rfl) (And.intro (Or.inl rfl) True.intro)) (hX _ _ h)))

def f_Pa_settle (v0 : Nat) (σ : q_H) : Option ((Unit) × q_H) := q_sq (f_Pa_settle_L2 v0 q_FU (0 : Int32) σ) fun (t35 : Unit) σ36 => some ((), σ36)
set_option maxRecDepth 100000 in
theorem b_Pa_settle {fo : Option Nat} {d : Nat} (hd : 4 ≤ d + 1) {o : q_O} {σ' : q_H} (v0 : Nat) (σ : q_H) : q_J (fun (r : Unit) (σ1 : q_H) => o = .inl none ∧ σ' = σ1) (f_Pa_settle v0 σ) (q_G (q_rf fo) d m_Pa_settle o σ' 0 [some (.ref v0), none] [] σ) := by
  unfold f_Pa_settle
  refine J_sq (fun (t35 : Unit) (σ36 : q_H) => q_G (q_rf fo) d m_Pa_settle o σ' 100 [none, none] [] σ36) (q_J.step (fun g => j_iconst (0 : Int32) rfl k32_0 (j_istore_n [some (.ref v0), some (.int (0 : Int32))] rfl rfl (Or.inr rfl) rfl (g))) (l_Pa_settle_L2 hd v0 (fun _ _ h => h) q_FU (0 : Int32) σ)) (fun t35 σ36 => ?_)
  exact J_some (fun h => j_vret rfl rfl h)
theorem t_Pa_settle {fo : Option Nat} {d : Nat} (hd : 4 ≤ d) {v0 : Nat} {σ σ1 : q_H} {r : Unit} (h : f_Pa_settle v0 σ = some (r, σ1)) : q_Rel (q_rf fo) q_Ms d 63 [.ref v0] σ (.inl none) σ1 := by
  obtain ⟨d, rfl⟩ : ∃ d1, d = d1 + 1 := ⟨d - 1, by omega⟩
  exact q_Rel.of rfl rfl (b_Pa_settle hd _ σ _ _ h ⟨rfl, rfl⟩)

def f_Sf_marriagesOf_L4 (v0 : Nat) (v1 : Int32) : Nat → Int32 → Int32 → q_H → Option ((Int32) × q_H)
  | 0, _, _, _ => none
  | n + 1, v2, v3, σ => if v3 < (24 : Int32) then ((q_ob σ 2 v0).bind fun w2 => q_sq (f_Sf_pageWithin v0 v3 (1 : Int32) v1 σ) fun x4 σ3 => match x4 with | none => (f_Sf_marriagesOf_L4 v0 v1 n (v2 + (0 : Int32)) (v3 + (1 : Int32)) σ3) | some a5 => ((q_gr (q_gf σ3 8 a5 11)).bind fun x6 => (q_ob σ3 9 x6).bind fun w7 => q_sq (f_Ty_all x6 (0 : Int32) σ3) fun x9 σ8 => f_Sf_marriagesOf_L4 v0 v1 n (v2 + x9) (v3 + (1 : Int32)) σ8)) else (some (v2, σ))
set_option maxRecDepth 100000 in
theorem l_Sf_marriagesOf_L4 {fo : Option Nat} {d : Nat} (hd : 4 ≤ d + 1) {o : q_O} {σ' : q_H} {E : (Int32) → q_H → Prop} (v0 : Nat) (v1 : Int32) (hX : ∀ (t : Int32) σ1, E (t) σ1 → q_G (q_rf fo) d m_Sf_marriagesOf o σ' 46 [none, none, some (.int t), none, none] [] σ1)  : ∀ (n : Nat) (v2 : Int32) (v3 : Int32) (σ : q_H), q_J E (f_Sf_marriagesOf_L4 v0 v1 n v2 v3 σ) (q_G (q_rf fo) d m_Sf_marriagesOf o σ' 4 [some (.ref v0), some (.int v1), some (.int v2), some (.int v3), none] [] σ)
  | 0, v2, v3, σ => J_none
  | n + 1, v2, v3, σ => by
    unfold f_Sf_marriagesOf_L4
    refine q_J.step (fun g => j_iload_n rfl rfl (j_bipush (24 : Int32) rfl kb_24 (g))) ?_
    refine J_ite (fun h1 => ?_) (fun h1 => ?_)
    · refine J_bind fun w2 hw2 => ?_
      refine J_cl fun x4 σ3 hσ3 => ?_
      refine q_J.step (fun g => j_icmp_f rfl (cc_ge_f h1) (j_aload_n rfl rfl (j_iload_n rfl rfl (j_iconst (1 : Int32) rfl k32_1 (j_iload_n rfl rfl (j_v1 [.ref v0, .int v3, .int (1 : Int32), .int v1] [] rfl rfl rfl rfl rfl rfl hw2 (Or.inl rfl) (t_Sf_pageWithin (by omega) hσ3) (j_astoreO (x := x4) [some (.ref v0), some (.int v1), some (.int v2), some (.int v3), some (q_rf x4)] rfl rfl (Or.inr rfl) rfl (j_iload_n rfl rfl (j_aloadO (x := x4) rfl rfl (g)))))))))) ?_
      cases ha5 : x4 with
      | none =>
        try subst ha5
        exact q_J.step (fun g => j_nul_t rfl (j_iconst (0 : Int32) rfl k32_0 (j_iadd rfl (j_istore_n [some (.ref v0), some (.int v1), some (.int (v2 + (0 : Int32))), some (.int v3), some (.null)] rfl rfl (Or.inr rfl) rfl (j_iinc [some (.ref v0), some (.int v1), some (.int (v2 + (0 : Int32))), some (.int (v3 + (1 : Int32))), some (.null)] (v3 + (1 : Int32)) rfl rfl (by rw [k32_1]) (Or.inr rfl) rfl (j_goto rfl (j_weak (l := [some (.ref v0), some (.int v1), some (.int (v2 + (0 : Int32))), some (.int (v3 + (1 : Int32))), none]) (And.intro (Or.inr rfl) (And.intro (Or.inr rfl) (And.intro (Or.inr rfl) (And.intro (Or.inr rfl) (And.intro (Or.inl rfl) True.intro))))) (g)))))))) (l_Sf_marriagesOf_L4 hd v0 v1 hX n (v2 + (0 : Int32)) (v3 + (1 : Int32)) σ3)
      | some a5 =>
        try subst ha5
        refine J_bind fun x6 hx6 => ?_
        refine J_bind fun w7 hw7 => ?_
        refine J_cl fun x9 σ8 hσ8 => ?_
        exact q_J.step (fun g => j_nul_f rfl (j_aload rfl rfl (j_gfr rfl hx6 (j_iconst (0 : Int32) rfl k32_0 (j_v1 [.ref x6, .int (0 : Int32)] [.int v2] rfl rfl rfl rfl rfl rfl hw7 (Or.inl rfl) (t_Ty_all (by omega) hσ8) (j_goto rfl (j_iadd rfl (j_istore_n [some (.ref v0), some (.int v1), some (.int (v2 + x9)), some (.int v3), some (.ref a5)] rfl rfl (Or.inr rfl) rfl (j_iinc [some (.ref v0), some (.int v1), some (.int (v2 + x9)), some (.int (v3 + (1 : Int32))), some (.ref a5)] (v3 + (1 : Int32)) rfl rfl (by rw [k32_1]) (Or.inr rfl) rfl (j_goto rfl (j_weak (l := [some (.ref v0), some (.int v1), some (.int (v2 + x9)), some (.int (v3 + (1 : Int32))), none]) (And.intro (Or.inr rfl) (And.intro (Or.inr rfl) (And.intro (Or.inr rfl) (And.intro (Or.inr rfl) (And.intro (Or.inl rfl) True.intro))))) (g)))))))))))) (l_Sf_marriagesOf_L4 hd v0 v1 hX n (v2 + x9) (v3 + (1 : Int32)) σ8)
    exact J_some (fun h => j_icmp_t rfl (cc_ge_t h1) (j_weak (l := [none, none, some (.int v2), none, none]) (And.intro (Or.inl rfl) (And.intro (Or.inl rfl) (And.intro (Or.inr rfl) (And.intro (Or.inl rfl) (And.intro (Or.inr rfl) True.intro))))) (hX _ _ h)))

def f_Sf_marriagesOf (v0 : Nat) (v1 : Int32) (σ : q_H) : Option ((Int32) × q_H) := q_sq (f_Sf_marriagesOf_L4 v0 v1 q_FU (0 : Int32) (0 : Int32) σ) fun (t10 : Int32) σ11 => some (t10, σ11)
set_option maxRecDepth 100000 in
theorem b_Sf_marriagesOf {fo : Option Nat} {d : Nat} (hd : 4 ≤ d + 1) {o : q_O} {σ' : q_H} (v0 : Nat) (v1 : Int32) (σ : q_H) : q_J (fun (r : Int32) (σ1 : q_H) => o = .inl (some (.int r)) ∧ σ' = σ1) (f_Sf_marriagesOf v0 v1 σ) (q_G (q_rf fo) d m_Sf_marriagesOf o σ' 0 [some (.ref v0), some (.int v1), none, none, none] [] σ) := by
  unfold f_Sf_marriagesOf
  refine J_sq (fun (t10 : Int32) (σ11 : q_H) => q_G (q_rf fo) d m_Sf_marriagesOf o σ' 46 [none, none, some (.int t10), none, none] [] σ11) (q_J.step (fun g => j_iconst (0 : Int32) rfl k32_0 (j_istore_n [some (.ref v0), some (.int v1), some (.int (0 : Int32)), none, none] rfl rfl (Or.inr rfl) rfl (j_iconst (0 : Int32) rfl k32_0 (j_istore_n [some (.ref v0), some (.int v1), some (.int (0 : Int32)), some (.int (0 : Int32)), none] rfl rfl (Or.inr rfl) rfl (g))))) (l_Sf_marriagesOf_L4 hd v0 v1 (fun _ _ h => h) q_FU (0 : Int32) (0 : Int32) σ)) (fun t10 σ11 => ?_)
  exact J_some (fun h => j_iload_n rfl rfl (j_iret rfl rfl h))
theorem t_Sf_marriagesOf {fo : Option Nat} {d : Nat} (hd : 4 ≤ d) {v0 : Nat} {v1 : Int32} {σ σ1 : q_H} {r : Int32} (h : f_Sf_marriagesOf v0 v1 σ = some (r, σ1)) : q_Rel (q_rf fo) q_Ms d 85 [.ref v0, .int v1] σ (.inl (some (.int r))) σ1 := by
  obtain ⟨d, rfl⟩ : ∃ d1, d = d1 + 1 := ⟨d - 1, by omega⟩
  exact q_Rel.of rfl rfl (b_Sf_marriagesOf hd _ _ σ _ _ h ⟨rfl, rfl⟩)

def f_Sf_lineThatIsOne (v0 : Nat) (v1 : Int32) (v2 : Int32) (v3 : Int32) (σ : q_H) : Option ((Int32) × q_H) := (q_ob σ 2 v0).bind fun w1 => q_sq (f_Sf_pageOf v0 v1 σ) fun x3 σ2 => (q_ob σ2 2 v0).bind fun w4 => q_sq (f_Sf_pageOf v0 v3 σ2) fun x6 σ5 => match x3 with | none => (some ((-1 : Int32), σ5)) | some a7 => (match x6 with | none => (some ((-1 : Int32), σ5)) | some a8 => ((q_ob σ5 8 a7).bind fun w9 => q_sq (f_Pa_has a7 v2 σ5) fun x11 σ10 => if x11 = (0 : Int32) then (some ((-1 : Int32), σ10)) else ((q_ob σ10 2 v0).bind fun w13 => q_sq (f_Sf_canShareLines v0 v1 v3 σ10) fun x15 σ14 => if x15 = (0 : Int32) then (some ((-1 : Int32), σ14)) else ((q_ob σ14 2 v0).bind fun w17 => q_sq (f_Sf_match v0 v1 a7 v2 v3 a8 σ14) fun x19 σ18 => some (x19, σ18)))))
set_option maxRecDepth 100000 in
theorem b_Sf_lineThatIsOne {fo : Option Nat} {d : Nat} (hd : 4 ≤ d + 1) {o : q_O} {σ' : q_H} (v0 : Nat) (v1 : Int32) (v2 : Int32) (v3 : Int32) (σ : q_H) : q_J (fun (r : Int32) (σ1 : q_H) => o = .inl (some (.int r)) ∧ σ' = σ1) (f_Sf_lineThatIsOne v0 v1 v2 v3 σ) (q_G (q_rf fo) d m_Sf_lineThatIsOne o σ' 0 [some (.ref v0), some (.int v1), some (.int v2), some (.int v3), none, none] [] σ) := by
  unfold f_Sf_lineThatIsOne
  refine J_bind fun w1 hw1 => ?_
  refine J_cl fun x3 σ2 hσ2 => ?_
  refine J_bind fun w4 hw4 => ?_
  refine J_cl fun x6 σ5 hσ5 => ?_
  refine q_J.step (fun g => j_aload_n rfl rfl (j_iload_n rfl rfl (j_v1 [.ref v0, .int v1] [] rfl rfl rfl rfl rfl rfl hw1 (Or.inl rfl) (t_Sf_pageOf (by omega) hσ2) (j_astoreO (x := x3) [some (.ref v0), some (.int v1), some (.int v2), some (.int v3), some (q_rf x3), none] rfl rfl (Or.inr rfl) rfl (j_aload_n rfl rfl (j_iload_n rfl rfl (j_v1 [.ref v0, .int v3] [] rfl rfl rfl rfl rfl rfl hw4 (Or.inl rfl) (t_Sf_pageOf (by omega) hσ5) (j_astoreO (x := x6) [some (.ref v0), some (.int v1), some (.int v2), some (.int v3), some (q_rf x3), some (q_rf x6)] rfl rfl (Or.inr (q_rf_cat _)) rfl (j_aloadO (x := x3) rfl rfl (g)))))))))) ?_
  cases ha7 : x3 with
  | none =>
    try subst ha7
    exact J_some (fun h => j_nul_t rfl (j_iconst (-1 : Int32) rfl k32_m1 (j_iret rfl rfl h)))
  | some a7 =>
    try subst ha7
    refine q_J.step (fun g => j_nul_f rfl (j_aloadO (x := x6) rfl rfl (g))) ?_
    cases ha8 : x6 with
    | none =>
      try subst ha8
      exact J_some (fun h => j_nul_t rfl (j_iconst (-1 : Int32) rfl k32_m1 (j_iret rfl rfl h)))
    | some a8 =>
      try subst ha8
      refine J_bind fun w9 hw9 => ?_
      refine J_cl fun x11 σ10 hσ10 => ?_
      refine q_J.step (fun g => j_nul_f rfl (j_aload rfl rfl (j_iload_n rfl rfl (j_v1 [.ref a7, .int v2] [] rfl rfl rfl rfl rfl rfl hw9 (Or.inl rfl) (t_Pa_has (by omega) hσ10) (g))))) ?_
      refine J_ite (fun h12 => ?_) (fun h12 => ?_)
      · exact J_some (fun h => j_if_t rfl (cc_eq_t h12) (j_iconst (-1 : Int32) rfl k32_m1 (j_iret rfl rfl h)))
      refine J_bind fun w13 hw13 => ?_
      refine J_cl fun x15 σ14 hσ14 => ?_
      refine q_J.step (fun g => j_if_f rfl (cc_eq_f h12) (j_aload_n rfl rfl (j_iload_n rfl rfl (j_iload_n rfl rfl (j_v1 [.ref v0, .int v1, .int v3] [] rfl rfl rfl rfl rfl rfl hw13 (Or.inl rfl) (t_Sf_canShareLines (by omega) hσ14) (g)))))) ?_
      refine J_ite (fun h16 => ?_) (fun h16 => ?_)
      · exact J_some (fun h => j_if_f rfl (cc_ne_f h16) (j_iconst (-1 : Int32) rfl k32_m1 (j_iret rfl rfl h)))
      refine J_bind fun w17 hw17 => ?_
      refine J_cl fun x19 σ18 hσ18 => ?_
      exact J_some (fun h => j_if_t rfl (cc_ne_t h16) (j_aload_n rfl rfl (j_iload_n rfl rfl (j_aload rfl rfl (j_iload_n rfl rfl (j_iload_n rfl rfl (j_aload rfl rfl (j_v1 [.ref v0, .int v1, .ref a7, .int v2, .int v3, .ref a8] [] rfl rfl rfl rfl rfl rfl hw17 (Or.inl rfl) (t_Sf_match (by omega) hσ18) (j_iret rfl rfl h)))))))))
theorem t_Sf_lineThatIsOne {fo : Option Nat} {d : Nat} (hd : 4 ≤ d) {v0 : Nat} {v1 : Int32} {v2 : Int32} {v3 : Int32} {σ σ1 : q_H} {r : Int32} (h : f_Sf_lineThatIsOne v0 v1 v2 v3 σ = some (r, σ1)) : q_Rel (q_rf fo) q_Ms d 86 [.ref v0, .int v1, .int v2, .int v3] σ (.inl (some (.int r))) σ1 := by
  obtain ⟨d, rfl⟩ : ∃ d1, d = d1 + 1 := ⟨d - 1, by omega⟩
  exact q_Rel.of rfl rfl (b_Sf_lineThatIsOne hd _ _ _ _ σ _ _ h ⟨rfl, rfl⟩)

def f_Ho_join_L41 (v0 : Nat) (v1 : Nat) (v2 : Int32) (v3 : Int32) (v4 : Nat) (v5 : Nat) : Nat → Int32 → Int32 → q_H → Option ((Int32) × q_H)
  | 0, _, _, _ => none
  | n + 1, v6, v7, σ => (q_gi (q_gf σ 8 v4 0)).bind fun x13 => if v7 < x13 then ((q_ob σ 2 v1).bind fun w15 => q_sq (f_Sf_match v1 v2 v4 v7 v3 v5 σ) fun x17 σ16 => if x17 = (-1 : Int32) then (f_Ho_join_L41 v0 v1 v2 v3 v4 v5 n v6 (v7 + (1 : Int32)) σ16) else ((q_ob σ16 2 v1).bind fun w19 => q_sq (f_Sf_firstBorn v1 v3 v5 x17 σ16) fun x21 σ20 => (q_ob σ20 2 v1).bind fun w22 => q_sq (f_Sf_lastBorn v1 v3 v5 x17 σ20) fun x24 σ23 => (q_ob σ23 3 v0).bind fun w25 => q_sq (f_Ho_narrow v0 ((v2 * (12 : Int32)) + v7) x21 x24 σ23) fun (_ : Unit) σ26 => (q_ob σ26 2 v1).bind fun w28 => q_sq (f_Sf_firstBorn v1 v2 v4 v7 σ26) fun x30 σ29 => (q_ob σ29 2 v1).bind fun w31 => q_sq (f_Sf_lastBorn v1 v2 v4 v7 σ29) fun x33 σ32 => (q_ob σ32 3 v0).bind fun w34 => q_sq (f_Ho_narrow v0 ((v3 * (12 : Int32)) + x17) x30 x33 σ32) fun (_ : Unit) σ35 => f_Ho_join_L41 v0 v1 v2 v3 v4 v5 n (v6 + (1 : Int32)) (v7 + (1 : Int32)) σ35)) else (some (v6, σ))
set_option maxRecDepth 100000 in
theorem l_Ho_join_L41 {fo : Option Nat} {d : Nat} (hd : 4 ≤ d + 1) {o : q_O} {σ' : q_H} {E : (Int32) → q_H → Prop} (v0 : Nat) (v1 : Nat) (v2 : Int32) (v3 : Int32) (v4 : Nat) (v5 : Nat) (hX : ∀ (t : Int32) σ1, E (t) σ1 → q_G (q_rf fo) d m_Ho_join o σ' 138 [none, none, none, none, none, none, some (.int t), none, none] [] σ1)  : ∀ (n : Nat) (v6 : Int32) (v7 : Int32) (σ : q_H), q_J E (f_Ho_join_L41 v0 v1 v2 v3 v4 v5 n v6 v7 σ) (q_G (q_rf fo) d m_Ho_join o σ' 41 [some (.ref v0), some (.ref v1), some (.int v2), some (.int v3), some (.ref v4), some (.ref v5), some (.int v6), some (.int v7), none] [] σ)
  | 0, v6, v7, σ => J_none
  | n + 1, v6, v7, σ => by
    unfold f_Ho_join_L41
    refine J_bind fun x13 hx13 => ?_
    refine q_J.step (fun g => j_iload rfl rfl (j_aload rfl rfl (j_gfi rfl hx13 (g)))) ?_
    refine J_ite (fun h14 => ?_) (fun h14 => ?_)
    · refine J_bind fun w15 hw15 => ?_
      refine J_cl fun x17 σ16 hσ16 => ?_
      refine q_J.step (fun g => j_icmp_f rfl (cc_ge_f h14) (j_aload_n rfl rfl (j_iload_n rfl rfl (j_aload rfl rfl (j_iload rfl rfl (j_iload_n rfl rfl (j_aload rfl rfl (j_v1 [.ref v1, .int v2, .ref v4, .int v7, .int v3, .ref v5] [] rfl rfl rfl rfl rfl rfl hw15 (Or.inl rfl) (t_Sf_match (by omega) hσ16) (j_istore [some (.ref v0), some (.ref v1), some (.int v2), some (.int v3), some (.ref v4), some (.ref v5), some (.int v6), some (.int v7), some (.int x17)] rfl rfl (Or.inr rfl) rfl (j_iload rfl rfl (j_iconst (-1 : Int32) rfl k32_m1 (g)))))))))))) ?_
      refine J_ite (fun h18 => ?_) (fun h18 => ?_)
      · exact q_J.step (fun g => j_icmp_t rfl (cc_eq_t h18) (j_iinc [some (.ref v0), some (.ref v1), some (.int v2), some (.int v3), some (.ref v4), some (.ref v5), some (.int v6), some (.int (v7 + (1 : Int32))), some (.int x17)] (v7 + (1 : Int32)) rfl rfl (by rw [k32_1]) (Or.inr rfl) rfl (j_goto rfl (j_weak (l := [some (.ref v0), some (.ref v1), some (.int v2), some (.int v3), some (.ref v4), some (.ref v5), some (.int v6), some (.int (v7 + (1 : Int32))), none]) (And.intro (Or.inr rfl) (And.intro (Or.inr rfl) (And.intro (Or.inr rfl) (And.intro (Or.inr rfl) (And.intro (Or.inr rfl) (And.intro (Or.inr rfl) (And.intro (Or.inr rfl) (And.intro (Or.inr rfl) (And.intro (Or.inl rfl) True.intro))))))))) (g))))) (l_Ho_join_L41 hd v0 v1 v2 v3 v4 v5 hX n v6 (v7 + (1 : Int32)) σ16)
      refine J_bind fun w19 hw19 => ?_
      refine J_cl fun x21 σ20 hσ20 => ?_
      refine J_bind fun w22 hw22 => ?_
      refine J_cl fun x24 σ23 hσ23 => ?_
      refine J_bind fun w25 hw25 => ?_
      refine J_cl fun _ σ26 hσ26 => ?_
      refine J_bind fun w28 hw28 => ?_
      refine J_cl fun x30 σ29 hσ29 => ?_
      refine J_bind fun w31 hw31 => ?_
      refine J_cl fun x33 σ32 hσ32 => ?_
      refine J_bind fun w34 hw34 => ?_
      refine J_cl fun _ σ35 hσ35 => ?_
      exact q_J.step (fun g => j_icmp_f rfl (cc_eq_f h18) (j_iinc [some (.ref v0), some (.ref v1), some (.int v2), some (.int v3), some (.ref v4), some (.ref v5), some (.int (v6 + (1 : Int32))), some (.int v7), some (.int x17)] (v6 + (1 : Int32)) rfl rfl (by rw [k32_1]) (Or.inr rfl) rfl (j_aload_n rfl rfl (j_iload_n rfl rfl (j_bipush (12 : Int32) rfl kb_12 (j_imul rfl (j_iload rfl rfl (j_iadd rfl (j_aload_n rfl rfl (j_iload_n rfl rfl (j_aload rfl rfl (j_iload rfl rfl (j_v1 [.ref v1, .int v3, .ref v5, .int x17] [.int ((v2 * (12 : Int32)) + v7), .ref v0] rfl rfl rfl rfl rfl rfl hw19 (Or.inl rfl) (t_Sf_firstBorn (by omega) hσ20) (j_aload_n rfl rfl (j_iload_n rfl rfl (j_aload rfl rfl (j_iload rfl rfl (j_v1 [.ref v1, .int v3, .ref v5, .int x17] [.int x21, .int ((v2 * (12 : Int32)) + v7), .ref v0] rfl rfl rfl rfl rfl rfl hw22 (Or.inl rfl) (t_Sf_lastBorn (by omega) hσ23) (j_v0 [.ref v0, .int ((v2 * (12 : Int32)) + v7), .int x21, .int x24] [] rfl rfl rfl rfl rfl rfl hw25 (Or.inl rfl) (t_Ho_narrow (by omega) hσ26) (j_aload_n rfl rfl (j_iload_n rfl rfl (j_bipush (12 : Int32) rfl kb_12 (j_imul rfl (j_iload rfl rfl (j_iadd rfl (j_aload_n rfl rfl (j_iload_n rfl rfl (j_aload rfl rfl (j_iload rfl rfl (j_v1 [.ref v1, .int v2, .ref v4, .int v7] [.int ((v3 * (12 : Int32)) + x17), .ref v0] rfl rfl rfl rfl rfl rfl hw28 (Or.inl rfl) (t_Sf_firstBorn (by omega) hσ29) (j_aload_n rfl rfl (j_iload_n rfl rfl (j_aload rfl rfl (j_iload rfl rfl (j_v1 [.ref v1, .int v2, .ref v4, .int v7] [.int x30, .int ((v3 * (12 : Int32)) + x17), .ref v0] rfl rfl rfl rfl rfl rfl hw31 (Or.inl rfl) (t_Sf_lastBorn (by omega) hσ32) (j_v0 [.ref v0, .int ((v3 * (12 : Int32)) + x17), .int x30, .int x33] [] rfl rfl rfl rfl rfl rfl hw34 (Or.inl rfl) (t_Ho_narrow (by omega) hσ35) (j_iinc [some (.ref v0), some (.ref v1), some (.int v2), some (.int v3), some (.ref v4), some (.ref v5), some (.int (v6 + (1 : Int32))), some (.int (v7 + (1 : Int32))), some (.int x17)] (v7 + (1 : Int32)) rfl rfl (by rw [k32_1]) (Or.inr rfl) rfl (j_goto rfl (j_weak (l := [some (.ref v0), some (.ref v1), some (.int v2), some (.int v3), some (.ref v4), some (.ref v5), some (.int (v6 + (1 : Int32))), some (.int (v7 + (1 : Int32))), none]) (And.intro (Or.inr rfl) (And.intro (Or.inr rfl) (And.intro (Or.inr rfl) (And.intro (Or.inr rfl) (And.intro (Or.inr rfl) (And.intro (Or.inr rfl) (And.intro (Or.inr rfl) (And.intro (Or.inr rfl) (And.intro (Or.inl rfl) True.intro))))))))) (g)))))))))))))))))))))))))))))))))))))))) (l_Ho_join_L41 hd v0 v1 v2 v3 v4 v5 hX n (v6 + (1 : Int32)) (v7 + (1 : Int32)) σ35)
    exact J_some (fun h => j_icmp_t rfl (cc_ge_t h14) (j_weak (l := [none, none, none, none, none, none, some (.int v6), none, none]) (And.intro (Or.inl rfl) (And.intro (Or.inl rfl) (And.intro (Or.inl rfl) (And.intro (Or.inl rfl) (And.intro (Or.inl rfl) (And.intro (Or.inl rfl) (And.intro (Or.inr rfl) (And.intro (Or.inl rfl) (And.intro (Or.inr rfl) True.intro))))))))) (hX _ _ h)))

def f_Ho_join (v0 : Nat) (v1 : Nat) (v2 : Int32) (v3 : Int32) (σ : q_H) : Option ((Int32) × q_H) := (q_ob σ 2 v1).bind fun w1 => q_sq (f_Sf_pageOf v1 v2 σ) fun x3 σ2 => (q_ob σ2 2 v1).bind fun w4 => q_sq (f_Sf_pageOf v1 v3 σ2) fun x6 σ5 => match x3 with | none => (some ((0 : Int32), σ5)) | some a7 => (match x6 with | none => (some ((0 : Int32), σ5)) | some a8 => ((q_ob σ5 2 v1).bind fun w9 => q_sq (f_Sf_canShareLines v1 v2 v3 σ5) fun x11 σ10 => if x11 = (0 : Int32) then (some ((0 : Int32), σ10)) else (q_sq (f_Ho_join_L41 v0 v1 v2 v3 a7 a8 q_FU (0 : Int32) (0 : Int32) σ10) fun (t37 : Int32) σ38 => some (t37, σ38))))
set_option maxRecDepth 100000 in
theorem b_Ho_join {fo : Option Nat} {d : Nat} (hd : 4 ≤ d + 1) {o : q_O} {σ' : q_H} (v0 : Nat) (v1 : Nat) (v2 : Int32) (v3 : Int32) (σ : q_H) : q_J (fun (r : Int32) (σ1 : q_H) => o = .inl (some (.int r)) ∧ σ' = σ1) (f_Ho_join v0 v1 v2 v3 σ) (q_G (q_rf fo) d m_Ho_join o σ' 0 [some (.ref v0), some (.ref v1), some (.int v2), some (.int v3), none, none, none, none, none] [] σ) := by
  unfold f_Ho_join
  refine J_bind fun w1 hw1 => ?_
  refine J_cl fun x3 σ2 hσ2 => ?_
  refine J_bind fun w4 hw4 => ?_
  refine J_cl fun x6 σ5 hσ5 => ?_
  refine q_J.step (fun g => j_aload_n rfl rfl (j_iload_n rfl rfl (j_v1 [.ref v1, .int v2] [] rfl rfl rfl rfl rfl rfl hw1 (Or.inl rfl) (t_Sf_pageOf (by omega) hσ2) (j_astoreO (x := x3) [some (.ref v0), some (.ref v1), some (.int v2), some (.int v3), some (q_rf x3), none, none, none, none] rfl rfl (Or.inr rfl) rfl (j_aload_n rfl rfl (j_iload_n rfl rfl (j_v1 [.ref v1, .int v3] [] rfl rfl rfl rfl rfl rfl hw4 (Or.inl rfl) (t_Sf_pageOf (by omega) hσ5) (j_astoreO (x := x6) [some (.ref v0), some (.ref v1), some (.int v2), some (.int v3), some (q_rf x3), some (q_rf x6), none, none, none] rfl rfl (Or.inr (q_rf_cat _)) rfl (j_aloadO (x := x3) rfl rfl (g)))))))))) ?_
  cases ha7 : x3 with
  | none =>
    try subst ha7
    exact J_some (fun h => j_nul_t rfl (j_iconst (0 : Int32) rfl k32_0 (j_iret rfl rfl h)))
  | some a7 =>
    try subst ha7
    refine q_J.step (fun g => j_nul_f rfl (j_aloadO (x := x6) rfl rfl (g))) ?_
    cases ha8 : x6 with
    | none =>
      try subst ha8
      exact J_some (fun h => j_nul_t rfl (j_iconst (0 : Int32) rfl k32_0 (j_iret rfl rfl h)))
    | some a8 =>
      try subst ha8
      refine J_bind fun w9 hw9 => ?_
      refine J_cl fun x11 σ10 hσ10 => ?_
      refine q_J.step (fun g => j_nul_f rfl (j_aload_n rfl rfl (j_iload_n rfl rfl (j_iload_n rfl rfl (j_v1 [.ref v1, .int v2, .int v3] [] rfl rfl rfl rfl rfl rfl hw9 (Or.inl rfl) (t_Sf_canShareLines (by omega) hσ10) (g)))))) ?_
      refine J_ite (fun h12 => ?_) (fun h12 => ?_)
      · exact J_some (fun h => j_if_f rfl (cc_ne_f h12) (j_iconst (0 : Int32) rfl k32_0 (j_iret rfl rfl h)))
      refine J_sq (fun (t37 : Int32) (σ38 : q_H) => q_G (q_rf fo) d m_Ho_join o σ' 138 [none, none, none, none, none, none, some (.int t37), none, none] [] σ38) (q_J.step (fun g => j_if_t rfl (cc_ne_t h12) (j_iconst (0 : Int32) rfl k32_0 (j_istore [some (.ref v0), some (.ref v1), some (.int v2), some (.int v3), some (.ref a7), some (.ref a8), some (.int (0 : Int32)), none, none] rfl rfl (Or.inr rfl) rfl (j_iconst (0 : Int32) rfl k32_0 (j_istore [some (.ref v0), some (.ref v1), some (.int v2), some (.int v3), some (.ref a7), some (.ref a8), some (.int (0 : Int32)), some (.int (0 : Int32)), none] rfl rfl (Or.inr rfl) rfl (g)))))) (l_Ho_join_L41 hd v0 v1 v2 v3 a7 a8 (fun _ _ h => h) q_FU (0 : Int32) (0 : Int32) σ10)) (fun t37 σ38 => ?_)
      exact J_some (fun h => j_iload rfl rfl (j_iret rfl rfl h))
theorem t_Ho_join {fo : Option Nat} {d : Nat} (hd : 4 ≤ d) {v0 : Nat} {v1 : Nat} {v2 : Int32} {v3 : Int32} {σ σ1 : q_H} {r : Int32} (h : f_Ho_join v0 v1 v2 v3 σ = some (r, σ1)) : q_Rel (q_rf fo) q_Ms d 99 [.ref v0, .ref v1, .int v2, .int v3] σ (.inl (some (.int r))) σ1 := by
  obtain ⟨d, rfl⟩ : ∃ d1, d = d1 + 1 := ⟨d - 1, by omega⟩
  exact q_Rel.of rfl rfl (b_Ho_join hd _ _ _ _ σ _ _ h ⟨rfl, rfl⟩)

def f_Ho_seekLeftOut_L35 (v0 : Nat) (v1 : Nat) (v2 : Int32) (v3 : Int32) (v4 : Nat) (v5 : Nat) (v6 : Int32) : Nat → Int32 → q_H → Option ((Unit) × q_H)
  | 0, _, _ => none
  | n + 1, v7, σ => (q_gi (q_gf σ 8 v5 0)).bind fun x12 => if v7 < x12 then ((q_gr (q_gf σ 3 v0 2)).bind fun x14 => (q_gi (q_ga σ 20 x14 ((v3 * (12 : Int32)) + v7))).bind fun x15 => (q_gr (q_gf σ 3 v0 3)).bind fun x16 => (q_gi (q_ga σ 20 x16 ((v3 * (12 : Int32)) + v7))).bind fun x17 => if x17 < x15 then (f_Ho_seekLeftOut_L35 v0 v1 v2 v3 v4 v5 v6 n (v7 + (1 : Int32)) σ) else (if x15 < v6 then ((q_ob σ 8 v4).bind fun w20 => q_sq (f_Pa_hasParentOf v4 v5 v7 σ) fun x22 σ21 => if x22 = (0 : Int32) then (f_Ho_seekLeftOut_L35 v0 v1 v2 v3 v4 v5 v6 n (v7 + (1 : Int32)) σ21) else ((q_ob σ21 2 v1).bind fun w24 => q_sq (f_Sf_match v1 v3 v5 v7 v2 v4 σ21) fun x26 σ25 => if x26 = (-1 : Int32) then ((q_gr (q_gf σ25 3 v0 4)).bind fun x28 => (q_gr (q_gf σ25 8 v5 4)).bind fun x29 => (q_gi (q_ga σ25 22 x29 v7)).bind fun x30 => q_sq (if x30 = (0 : Int32) then (some ((0 : Int32), σ25)) else (some ((2 : Int32), σ25))) fun (t32 : Int32) σ33 => if x17 < v6 then ((q_gi (q_ga σ33 20 x28 (((v2 * (4 : Int32)) + t32) + (0 : Int32)))).bind fun x35 => (q_sa σ33 20 x28 (((v2 * (4 : Int32)) + t32) + (0 : Int32)) (.int (x35 + (1 : Int32)))).bind fun σ36 => f_Ho_seekLeftOut_L35 v0 v1 v2 v3 v4 v5 v6 n (v7 + (1 : Int32)) σ36) else ((q_gi (q_ga σ33 20 x28 (((v2 * (4 : Int32)) + t32) + (1 : Int32)))).bind fun x37 => (q_sa σ33 20 x28 (((v2 * (4 : Int32)) + t32) + (1 : Int32)) (.int (x37 + (1 : Int32)))).bind fun σ38 => f_Ho_seekLeftOut_L35 v0 v1 v2 v3 v4 v5 v6 n (v7 + (1 : Int32)) σ38)) else (f_Ho_seekLeftOut_L35 v0 v1 v2 v3 v4 v5 v6 n (v7 + (1 : Int32)) σ25))) else (f_Ho_seekLeftOut_L35 v0 v1 v2 v3 v4 v5 v6 n (v7 + (1 : Int32)) σ))) else (some ((), σ))
set_option maxRecDepth 100000 in
theorem l_Ho_seekLeftOut_L35 {fo : Option Nat} {d : Nat} (hd : 4 ≤ d + 1) {o : q_O} {σ' : q_H} {E : (Unit) → q_H → Prop} (v0 : Nat) (v1 : Nat) (v2 : Int32) (v3 : Int32) (v4 : Nat) (v5 : Nat) (v6 : Int32) (hX : ∀ (t : Unit) σ1, E (t) σ1 → q_G (q_rf fo) d m_Ho_seekLeftOut o σ' 163 [none, none, none, none, none, none, none, none, none, none] [] σ1)  : ∀ (n : Nat) (v7 : Int32) (σ : q_H), q_J E (f_Ho_seekLeftOut_L35 v0 v1 v2 v3 v4 v5 v6 n v7 σ) (q_G (q_rf fo) d m_Ho_seekLeftOut o σ' 35 [some (.ref v0), some (.ref v1), some (.int v2), some (.int v3), some (.ref v4), some (.ref v5), some (.int v6), some (.int v7), none, none] [] σ)
  | 0, v7, σ => J_none
  | n + 1, v7, σ => by
    unfold f_Ho_seekLeftOut_L35
    refine J_bind fun x12 hx12 => ?_
    refine q_J.step (fun g => j_iload rfl rfl (j_aload rfl rfl (j_gfi rfl hx12 (g)))) ?_
    refine J_ite (fun h13 => ?_) (fun h13 => ?_)
    · refine J_bind fun x14 hx14 => ?_
      refine J_bind fun x15 hx15 => ?_
      refine J_bind fun x16 hx16 => ?_
      refine J_bind fun x17 hx17 => ?_
      refine q_J.step (fun g => j_icmp_f rfl (cc_ge_f h13) (j_aload_n rfl rfl (j_gfr rfl hx14 (j_iload_n rfl rfl (j_bipush (12 : Int32) rfl kb_12 (j_imul rfl (j_iload rfl rfl (j_iadd rfl (j_ial rfl hx15 (j_istore [some (.ref v0), some (.ref v1), some (.int v2), some (.int v3), some (.ref v4), some (.ref v5), some (.int v6), some (.int v7), some (.int x15), none] rfl rfl (Or.inr rfl) rfl (j_aload_n rfl rfl (j_gfr rfl hx16 (j_iload_n rfl rfl (j_bipush (12 : Int32) rfl kb_12 (g))))))))))))))) ?_
      refine q_J.step (fun g => j_imul rfl (j_iload rfl rfl (j_iadd rfl (j_ial rfl hx17 (j_istore [some (.ref v0), some (.ref v1), some (.int v2), some (.int v3), some (.ref v4), some (.ref v5), some (.int v6), some (.int v7), some (.int x15), some (.int x17)] rfl rfl (Or.inr rfl) rfl (j_iload rfl rfl (j_iload rfl rfl (g)))))))) ?_
      refine J_ite (fun h18 => ?_) (fun h18 => ?_)
      · exact q_J.step (fun g => j_icmp_t rfl (cc_gt_t h18) (j_iinc [some (.ref v0), some (.ref v1), some (.int v2), some (.int v3), some (.ref v4), some (.ref v5), some (.int v6), some (.int (v7 + (1 : Int32))), some (.int x15), some (.int x17)] (v7 + (1 : Int32)) rfl rfl (by rw [k32_1]) (Or.inr rfl) rfl (j_goto rfl (j_weak (l := [some (.ref v0), some (.ref v1), some (.int v2), some (.int v3), some (.ref v4), some (.ref v5), some (.int v6), some (.int (v7 + (1 : Int32))), none, none]) (And.intro (Or.inr rfl) (And.intro (Or.inr rfl) (And.intro (Or.inr rfl) (And.intro (Or.inr rfl) (And.intro (Or.inr rfl) (And.intro (Or.inr rfl) (And.intro (Or.inr rfl) (And.intro (Or.inr rfl) (And.intro (Or.inl rfl) (And.intro (Or.inl rfl) True.intro)))))))))) (g))))) (l_Ho_seekLeftOut_L35 hd v0 v1 v2 v3 v4 v5 v6 hX n (v7 + (1 : Int32)) σ)
      refine q_J.step (fun g => j_icmp_f rfl (cc_gt_f h18) (j_iload rfl rfl (j_iload rfl rfl (g)))) ?_
      refine J_ite (fun h19 => ?_) (fun h19 => ?_)
      · refine J_bind fun w20 hw20 => ?_
        refine J_cl fun x22 σ21 hσ21 => ?_
        refine q_J.step (fun g => j_icmp_f rfl (cc_ge_f h19) (j_aload rfl rfl (j_aload rfl rfl (j_iload rfl rfl (j_v1 [.ref v4, .ref v5, .int v7] [] rfl rfl rfl rfl rfl rfl hw20 (Or.inl rfl) (t_Pa_hasParentOf (by omega) hσ21) (g)))))) ?_
        refine J_ite (fun h23 => ?_) (fun h23 => ?_)
        · exact q_J.step (fun g => j_if_t rfl (cc_eq_t h23) (j_iinc [some (.ref v0), some (.ref v1), some (.int v2), some (.int v3), some (.ref v4), some (.ref v5), some (.int v6), some (.int (v7 + (1 : Int32))), some (.int x15), some (.int x17)] (v7 + (1 : Int32)) rfl rfl (by rw [k32_1]) (Or.inr rfl) rfl (j_goto rfl (j_weak (l := [some (.ref v0), some (.ref v1), some (.int v2), some (.int v3), some (.ref v4), some (.ref v5), some (.int v6), some (.int (v7 + (1 : Int32))), none, none]) (And.intro (Or.inr rfl) (And.intro (Or.inr rfl) (And.intro (Or.inr rfl) (And.intro (Or.inr rfl) (And.intro (Or.inr rfl) (And.intro (Or.inr rfl) (And.intro (Or.inr rfl) (And.intro (Or.inr rfl) (And.intro (Or.inl rfl) (And.intro (Or.inl rfl) True.intro)))))))))) (g))))) (l_Ho_seekLeftOut_L35 hd v0 v1 v2 v3 v4 v5 v6 hX n (v7 + (1 : Int32)) σ21)
        refine J_bind fun w24 hw24 => ?_
        refine J_cl fun x26 σ25 hσ25 => ?_
        refine q_J.step (fun g => j_if_f rfl (cc_eq_f h23) (j_aload_n rfl rfl (j_iload_n rfl rfl (j_aload rfl rfl (j_iload rfl rfl (j_iload_n rfl rfl (j_aload rfl rfl (j_v1 [.ref v1, .int v3, .ref v5, .int v7, .int v2, .ref v4] [] rfl rfl rfl rfl rfl rfl hw24 (Or.inl rfl) (t_Sf_match (by omega) hσ25) (j_iconst (-1 : Int32) rfl k32_m1 (g)))))))))) ?_
        refine J_ite (fun h27 => ?_) (fun h27 => ?_)
        · refine J_bind fun x28 hx28 => ?_
          refine J_bind fun x29 hx29 => ?_
          refine J_bind fun x30 hx30 => ?_
          refine q_J.step (fun g => j_icmp_f rfl (cc_ne_f h27) (j_aload_n rfl rfl (j_gfr rfl hx28 (j_iload_n rfl rfl (j_iconst (4 : Int32) rfl k32_4 (j_imul rfl (j_aload rfl rfl (j_gfr rfl hx29 (j_iload rfl rfl (j_bal rfl rfl hx30 (g))))))))))) ?_
          refine J_sq (fun (t32 : Int32) (σ33 : q_H) => q_G (q_rf fo) d m_Ho_seekLeftOut o σ' 138 [some (.ref v0), some (.ref v1), some (.int v2), some (.int v3), some (.ref v4), some (.ref v5), some (.int v6), some (.int v7), none, some (.int x17)] [.int t32, .int (v2 * (4 : Int32)), .ref x28] σ33) ?_ (fun t32 σ33 => ?_)
          · refine J_ite (fun h31 => ?_) (fun h31 => ?_)
            · exact J_some (fun h => j_if_t rfl (cc_eq_t h31) (j_iconst (0 : Int32) rfl k32_0 (j_weak (l := [some (.ref v0), some (.ref v1), some (.int v2), some (.int v3), some (.ref v4), some (.ref v5), some (.int v6), some (.int v7), none, some (.int x17)]) (And.intro (Or.inr rfl) (And.intro (Or.inr rfl) (And.intro (Or.inr rfl) (And.intro (Or.inr rfl) (And.intro (Or.inr rfl) (And.intro (Or.inr rfl) (And.intro (Or.inr rfl) (And.intro (Or.inr rfl) (And.intro (Or.inl rfl) (And.intro (Or.inr rfl) True.intro)))))))))) (h))))
            exact J_some (fun h => j_if_f rfl (cc_eq_f h31) (j_iconst (2 : Int32) rfl k32_2 (j_goto rfl (j_weak (l := [some (.ref v0), some (.ref v1), some (.int v2), some (.int v3), some (.ref v4), some (.ref v5), some (.int v6), some (.int v7), none, some (.int x17)]) (And.intro (Or.inr rfl) (And.intro (Or.inr rfl) (And.intro (Or.inr rfl) (And.intro (Or.inr rfl) (And.intro (Or.inr rfl) (And.intro (Or.inr rfl) (And.intro (Or.inr rfl) (And.intro (Or.inr rfl) (And.intro (Or.inl rfl) (And.intro (Or.inr rfl) True.intro)))))))))) (h)))))
          refine q_J.step (fun g => j_iadd rfl (j_iload rfl rfl (j_iload rfl rfl (g)))) ?_
          refine J_ite (fun h34 => ?_) (fun h34 => ?_)
          · refine J_bind fun x35 hx35 => ?_
            refine J_bind fun σ36 hσ36 => ?_
            exact q_J.step (fun g => j_icmp_f rfl (cc_ge_f h34) (j_iconst (0 : Int32) rfl k32_0 (j_goto rfl (j_iadd rfl (j_dup2 rfl rfl rfl (j_ial rfl hx35 (j_iconst (1 : Int32) rfl k32_1 (j_iadd rfl (j_ias rfl hσ36 (j_iinc [some (.ref v0), some (.ref v1), some (.int v2), some (.int v3), some (.ref v4), some (.ref v5), some (.int v6), some (.int (v7 + (1 : Int32))), none, some (.int x17)] (v7 + (1 : Int32)) rfl rfl (by rw [k32_1]) (Or.inr rfl) rfl (j_goto rfl (j_weak (l := [some (.ref v0), some (.ref v1), some (.int v2), some (.int v3), some (.ref v4), some (.ref v5), some (.int v6), some (.int (v7 + (1 : Int32))), none, none]) (And.intro (Or.inr rfl) (And.intro (Or.inr rfl) (And.intro (Or.inr rfl) (And.intro (Or.inr rfl) (And.intro (Or.inr rfl) (And.intro (Or.inr rfl) (And.intro (Or.inr rfl) (And.intro (Or.inr rfl) (And.intro (Or.inr rfl) (And.intro (Or.inl rfl) True.intro)))))))))) (g))))))))))))) (l_Ho_seekLeftOut_L35 hd v0 v1 v2 v3 v4 v5 v6 hX n (v7 + (1 : Int32)) σ36)
          refine J_bind fun x37 hx37 => ?_
          refine J_bind fun σ38 hσ38 => ?_
          exact q_J.step (fun g => j_icmp_t rfl (cc_ge_t h34) (j_iconst (1 : Int32) rfl k32_1 (j_iadd rfl (j_dup2 rfl rfl rfl (j_ial rfl hx37 (j_iconst (1 : Int32) rfl k32_1 (j_iadd rfl (j_ias rfl hσ38 (j_iinc [some (.ref v0), some (.ref v1), some (.int v2), some (.int v3), some (.ref v4), some (.ref v5), some (.int v6), some (.int (v7 + (1 : Int32))), none, some (.int x17)] (v7 + (1 : Int32)) rfl rfl (by rw [k32_1]) (Or.inr rfl) rfl (j_goto rfl (j_weak (l := [some (.ref v0), some (.ref v1), some (.int v2), some (.int v3), some (.ref v4), some (.ref v5), some (.int v6), some (.int (v7 + (1 : Int32))), none, none]) (And.intro (Or.inr rfl) (And.intro (Or.inr rfl) (And.intro (Or.inr rfl) (And.intro (Or.inr rfl) (And.intro (Or.inr rfl) (And.intro (Or.inr rfl) (And.intro (Or.inr rfl) (And.intro (Or.inr rfl) (And.intro (Or.inr rfl) (And.intro (Or.inl rfl) True.intro)))))))))) (g)))))))))))) (l_Ho_seekLeftOut_L35 hd v0 v1 v2 v3 v4 v5 v6 hX n (v7 + (1 : Int32)) σ38)
        exact q_J.step (fun g => j_icmp_t rfl (cc_ne_t h27) (j_iinc [some (.ref v0), some (.ref v1), some (.int v2), some (.int v3), some (.ref v4), some (.ref v5), some (.int v6), some (.int (v7 + (1 : Int32))), some (.int x15), some (.int x17)] (v7 + (1 : Int32)) rfl rfl (by rw [k32_1]) (Or.inr rfl) rfl (j_goto rfl (j_weak (l := [some (.ref v0), some (.ref v1), some (.int v2), some (.int v3), some (.ref v4), some (.ref v5), some (.int v6), some (.int (v7 + (1 : Int32))), none, none]) (And.intro (Or.inr rfl) (And.intro (Or.inr rfl) (And.intro (Or.inr rfl) (And.intro (Or.inr rfl) (And.intro (Or.inr rfl) (And.intro (Or.inr rfl) (And.intro (Or.inr rfl) (And.intro (Or.inr rfl) (And.intro (Or.inl rfl) (And.intro (Or.inl rfl) True.intro)))))))))) (g))))) (l_Ho_seekLeftOut_L35 hd v0 v1 v2 v3 v4 v5 v6 hX n (v7 + (1 : Int32)) σ25)
      exact q_J.step (fun g => j_icmp_t rfl (cc_ge_t h19) (j_iinc [some (.ref v0), some (.ref v1), some (.int v2), some (.int v3), some (.ref v4), some (.ref v5), some (.int v6), some (.int (v7 + (1 : Int32))), some (.int x15), some (.int x17)] (v7 + (1 : Int32)) rfl rfl (by rw [k32_1]) (Or.inr rfl) rfl (j_goto rfl (j_weak (l := [some (.ref v0), some (.ref v1), some (.int v2), some (.int v3), some (.ref v4), some (.ref v5), some (.int v6), some (.int (v7 + (1 : Int32))), none, none]) (And.intro (Or.inr rfl) (And.intro (Or.inr rfl) (And.intro (Or.inr rfl) (And.intro (Or.inr rfl) (And.intro (Or.inr rfl) (And.intro (Or.inr rfl) (And.intro (Or.inr rfl) (And.intro (Or.inr rfl) (And.intro (Or.inl rfl) (And.intro (Or.inl rfl) True.intro)))))))))) (g))))) (l_Ho_seekLeftOut_L35 hd v0 v1 v2 v3 v4 v5 v6 hX n (v7 + (1 : Int32)) σ)
    exact J_some (fun h => j_icmp_t rfl (cc_ge_t h13) (j_weak (l := [none, none, none, none, none, none, none, none, none, none]) (And.intro (Or.inl rfl) (And.intro (Or.inl rfl) (And.intro (Or.inl rfl) (And.intro (Or.inl rfl) (And.intro (Or.inl rfl) (And.intro (Or.inl rfl) (And.intro (Or.inl rfl) (And.intro (Or.inl rfl) (And.intro (Or.inr rfl) (And.intro (Or.inr rfl) True.intro)))))))))) (hX _ _ h)))

def f_Ho_seekLeftOut (v0 : Nat) (v1 : Nat) (v2 : Int32) (v3 : Int32) (σ : q_H) : Option ((Unit) × q_H) := (q_ob σ 2 v1).bind fun w1 => q_sq (f_Sf_pageOf v1 v2 σ) fun x3 σ2 => (q_ob σ2 2 v1).bind fun w4 => q_sq (f_Sf_pageOf v1 v3 σ2) fun x6 σ5 => match x3 with | none => (some ((), σ5)) | some a7 => (match x6 with | none => (some ((), σ5)) | some a8 => ((q_ob σ5 2 v1).bind fun w9 => q_sq (f_Sf_yearOf v1 v2 σ5) fun x11 σ10 => q_sq (f_Ho_seekLeftOut_L35 v0 v1 v2 v3 a7 a8 x11 q_FU (0 : Int32) σ10) fun (t39 : Unit) σ40 => some ((), σ40)))
set_option maxRecDepth 100000 in
theorem b_Ho_seekLeftOut {fo : Option Nat} {d : Nat} (hd : 4 ≤ d + 1) {o : q_O} {σ' : q_H} (v0 : Nat) (v1 : Nat) (v2 : Int32) (v3 : Int32) (σ : q_H) : q_J (fun (r : Unit) (σ1 : q_H) => o = .inl none ∧ σ' = σ1) (f_Ho_seekLeftOut v0 v1 v2 v3 σ) (q_G (q_rf fo) d m_Ho_seekLeftOut o σ' 0 [some (.ref v0), some (.ref v1), some (.int v2), some (.int v3), none, none, none, none, none, none] [] σ) := by
  unfold f_Ho_seekLeftOut
  refine J_bind fun w1 hw1 => ?_
  refine J_cl fun x3 σ2 hσ2 => ?_
  refine J_bind fun w4 hw4 => ?_
  refine J_cl fun x6 σ5 hσ5 => ?_
  refine q_J.step (fun g => j_aload_n rfl rfl (j_iload_n rfl rfl (j_v1 [.ref v1, .int v2] [] rfl rfl rfl rfl rfl rfl hw1 (Or.inl rfl) (t_Sf_pageOf (by omega) hσ2) (j_astoreO (x := x3) [some (.ref v0), some (.ref v1), some (.int v2), some (.int v3), some (q_rf x3), none, none, none, none, none] rfl rfl (Or.inr rfl) rfl (j_aload_n rfl rfl (j_iload_n rfl rfl (j_v1 [.ref v1, .int v3] [] rfl rfl rfl rfl rfl rfl hw4 (Or.inl rfl) (t_Sf_pageOf (by omega) hσ5) (j_astoreO (x := x6) [some (.ref v0), some (.ref v1), some (.int v2), some (.int v3), some (q_rf x3), some (q_rf x6), none, none, none, none] rfl rfl (Or.inr (q_rf_cat _)) rfl (j_aloadO (x := x3) rfl rfl (g)))))))))) ?_
  cases ha7 : x3 with
  | none =>
    try subst ha7
    exact J_some (fun h => j_nul_t rfl (j_vret rfl rfl h))
  | some a7 =>
    try subst ha7
    refine q_J.step (fun g => j_nul_f rfl (j_aloadO (x := x6) rfl rfl (g))) ?_
    cases ha8 : x6 with
    | none =>
      try subst ha8
      exact J_some (fun h => j_non_f rfl (j_vret rfl rfl h))
    | some a8 =>
      try subst ha8
      refine J_bind fun w9 hw9 => ?_
      refine J_cl fun x11 σ10 hσ10 => ?_
      refine J_sq (fun (t39 : Unit) (σ40 : q_H) => q_G (q_rf fo) d m_Ho_seekLeftOut o σ' 163 [none, none, none, none, none, none, none, none, none, none] [] σ40) (q_J.step (fun g => j_non_t rfl (j_aload_n rfl rfl (j_iload_n rfl rfl (j_v1 [.ref v1, .int v2] [] rfl rfl rfl rfl rfl rfl hw9 (Or.inl rfl) (t_Sf_yearOf (by omega) hσ10) (j_istore [some (.ref v0), some (.ref v1), some (.int v2), some (.int v3), some (.ref a7), some (.ref a8), some (.int x11), none, none, none] rfl rfl (Or.inr rfl) rfl (j_iconst (0 : Int32) rfl k32_0 (j_istore [some (.ref v0), some (.ref v1), some (.int v2), some (.int v3), some (.ref a7), some (.ref a8), some (.int x11), some (.int (0 : Int32)), none, none] rfl rfl (Or.inr rfl) rfl (g)))))))) (l_Ho_seekLeftOut_L35 hd v0 v1 v2 v3 a7 a8 x11 (fun _ _ h => h) q_FU (0 : Int32) σ10)) (fun t39 σ40 => ?_)
      exact J_some (fun h => j_vret rfl rfl h)
theorem t_Ho_seekLeftOut {fo : Option Nat} {d : Nat} (hd : 4 ≤ d) {v0 : Nat} {v1 : Nat} {v2 : Int32} {v3 : Int32} {σ σ1 : q_H} {r : Unit} (h : f_Ho_seekLeftOut v0 v1 v2 v3 σ = some (r, σ1)) : q_Rel (q_rf fo) q_Ms d 102 [.ref v0, .ref v1, .int v2, .int v3] σ (.inl none) σ1 := by
  obtain ⟨d, rfl⟩ : ∃ d1, d = d1 + 1 := ⟨d - 1, by omega⟩
  exact q_Rel.of rfl rfl (b_Ho_seekLeftOut hd _ _ _ _ σ _ _ h ⟨rfl, rfl⟩)

def f_Rs_sort (v0 : Nat) (v1 : Int32) (v2 : Int32) (σ : q_H) : Option ((Int32) × q_H) := (q_ob σ 0 v0).bind fun w1 => q_sq (f_Rs_pageOfWife v0 v1 v2 σ) fun x3 σ2 => match x3 with | none => (some ((-1 : Int32), σ2)) | some a4 => ((q_gr (q_gf σ2 8 a4 9)).bind fun x5 => (q_gi (q_ga σ2 20 x5 v2)).bind fun x6 => some (x6, σ2))
set_option maxRecDepth 100000 in
theorem b_Rs_sort {fo : Option Nat} {d : Nat} (hd : 4 ≤ d + 1) {o : q_O} {σ' : q_H} (v0 : Nat) (v1 : Int32) (v2 : Int32) (σ : q_H) : q_J (fun (r : Int32) (σ1 : q_H) => o = .inl (some (.int r)) ∧ σ' = σ1) (f_Rs_sort v0 v1 v2 σ) (q_G (q_rf fo) d m_Rs_sort o σ' 0 [some (.ref v0), some (.int v1), some (.int v2), none] [] σ) := by
  unfold f_Rs_sort
  refine J_bind fun w1 hw1 => ?_
  refine J_cl fun x3 σ2 hσ2 => ?_
  refine q_J.step (fun g => j_aload_n rfl rfl (j_iload_n rfl rfl (j_iload_n rfl rfl (j_v1 [.ref v0, .int v1, .int v2] [] rfl rfl rfl rfl rfl rfl hw1 (Or.inl rfl) (t_Rs_pageOfWife (by omega) hσ2) (j_astore_nO (x := x3) [some (.ref v0), some (.int v1), some (.int v2), some (q_rf x3)] rfl rfl (Or.inr rfl) rfl (j_aload_nO (x := x3) rfl rfl (g))))))) ?_
  cases ha4 : x3 with
  | none =>
    try subst ha4
    exact J_some (fun h => j_non_f rfl (j_iconst (-1 : Int32) rfl k32_m1 (j_goto rfl (j_iret rfl rfl h))))
  | some a4 =>
    try subst ha4
    refine J_bind fun x5 hx5 => ?_
    refine J_bind fun x6 hx6 => ?_
    exact J_some (fun h => j_non_t rfl (j_aload_n rfl rfl (j_gfr rfl hx5 (j_iload_n rfl rfl (j_ial rfl hx6 (j_iret rfl rfl h))))))
theorem t_Rs_sort {fo : Option Nat} {d : Nat} (hd : 4 ≤ d) {v0 : Nat} {v1 : Int32} {v2 : Int32} {σ σ1 : q_H} {r : Int32} (h : f_Rs_sort v0 v1 v2 σ = some (r, σ1)) : q_Rel (q_rf fo) q_Ms d 115 [.ref v0, .int v1, .int v2] σ (.inl (some (.int r))) σ1 := by
  obtain ⟨d, rfl⟩ : ∃ d1, d = d1 + 1 := ⟨d - 1, by omega⟩
  exact q_Rel.of rfl rfl (b_Rs_sort hd _ _ _ σ _ _ h ⟨rfl, rfl⟩)

def f_Rs_gather_L11 (v0 : Nat) (v1 : Int32) (v2 : Int32) (v3 : Nat) : Nat → Int32 → q_H → Option ((Unit) × q_H)
  | 0, _, _ => none
  | n + 1, v4, σ => if v4 < (24 : Int32) then ((q_gr (q_gf σ 0 v0 3)).bind fun x6 => (q_ob σ 2 x6).bind fun w7 => q_sq (f_Sf_pageWithin x6 v4 v1 v2 σ) fun x9 σ8 => match x9 with | none => (f_Rs_gather_L11 v0 v1 v2 v3 n (v4 + (1 : Int32)) σ8) | some a10 => ((q_gr (q_gf σ8 8 a10 11)).bind fun x11 => (q_ob σ8 9 v3).bind fun w12 => q_sq (f_Ty_add v3 x11 σ8) fun (_ : Unit) σ13 => f_Rs_gather_L11 v0 v1 v2 v3 n (v4 + (1 : Int32)) σ13)) else (some ((), σ))
set_option maxRecDepth 100000 in
theorem l_Rs_gather_L11 {fo : Option Nat} {d : Nat} (hd : 4 ≤ d + 1) {o : q_O} {σ' : q_H} {E : (Unit) → q_H → Prop} (v0 : Nat) (v1 : Int32) (v2 : Int32) (v3 : Nat) (hX : ∀ (t : Unit) σ1, E (t) σ1 → q_G (q_rf fo) d m_Rs_gather o σ' 51 [none, none, none, some (.ref v3), none, none] [] σ1)  : ∀ (n : Nat) (v4 : Int32) (σ : q_H), q_J E (f_Rs_gather_L11 v0 v1 v2 v3 n v4 σ) (q_G (q_rf fo) d m_Rs_gather o σ' 11 [some (.ref v0), some (.int v1), some (.int v2), some (.ref v3), some (.int v4), none] [] σ)
  | 0, v4, σ => J_none
  | n + 1, v4, σ => by
    unfold f_Rs_gather_L11
    refine q_J.step (fun g => j_iload rfl rfl (j_bipush (24 : Int32) rfl kb_24 (g))) ?_
    refine J_ite (fun h5 => ?_) (fun h5 => ?_)
    · refine J_bind fun x6 hx6 => ?_
      refine J_bind fun w7 hw7 => ?_
      refine J_cl fun x9 σ8 hσ8 => ?_
      refine q_J.step (fun g => j_icmp_f rfl (cc_ge_f h5) (j_aload_n rfl rfl (j_gfr rfl hx6 (j_iload rfl rfl (j_iload_n rfl rfl (j_iload_n rfl rfl (j_v1 [.ref x6, .int v4, .int v1, .int v2] [] rfl rfl rfl rfl rfl rfl hw7 (Or.inl rfl) (t_Sf_pageWithin (by omega) hσ8) (j_astoreO (x := x9) [some (.ref v0), some (.int v1), some (.int v2), some (.ref v3), some (.int v4), some (q_rf x9)] rfl rfl (Or.inr rfl) rfl (j_aloadO (x := x9) rfl rfl (g)))))))))) ?_
      cases ha10 : x9 with
      | none =>
        try subst ha10
        exact q_J.step (fun g => j_nul_t rfl (j_iinc [some (.ref v0), some (.int v1), some (.int v2), some (.ref v3), some (.int (v4 + (1 : Int32))), some (.null)] (v4 + (1 : Int32)) rfl rfl (by rw [k32_1]) (Or.inr rfl) rfl (j_goto rfl (j_weak (l := [some (.ref v0), some (.int v1), some (.int v2), some (.ref v3), some (.int (v4 + (1 : Int32))), none]) (And.intro (Or.inr rfl) (And.intro (Or.inr rfl) (And.intro (Or.inr rfl) (And.intro (Or.inr rfl) (And.intro (Or.inr rfl) (And.intro (Or.inl rfl) True.intro)))))) (g))))) (l_Rs_gather_L11 hd v0 v1 v2 v3 hX n (v4 + (1 : Int32)) σ8)
      | some a10 =>
        try subst ha10
        refine J_bind fun x11 hx11 => ?_
        refine J_bind fun w12 hw12 => ?_
        refine J_cl fun _ σ13 hσ13 => ?_
        exact q_J.step (fun g => j_nul_f rfl (j_aload_n rfl rfl (j_aload rfl rfl (j_gfr rfl hx11 (j_v0 [.ref v3, .ref x11] [] rfl rfl rfl rfl rfl rfl hw12 (Or.inl rfl) (t_Ty_add (by omega) hσ13) (j_iinc [some (.ref v0), some (.int v1), some (.int v2), some (.ref v3), some (.int (v4 + (1 : Int32))), some (.ref a10)] (v4 + (1 : Int32)) rfl rfl (by rw [k32_1]) (Or.inr rfl) rfl (j_goto rfl (j_weak (l := [some (.ref v0), some (.int v1), some (.int v2), some (.ref v3), some (.int (v4 + (1 : Int32))), none]) (And.intro (Or.inr rfl) (And.intro (Or.inr rfl) (And.intro (Or.inr rfl) (And.intro (Or.inr rfl) (And.intro (Or.inr rfl) (And.intro (Or.inl rfl) True.intro)))))) (g))))))))) (l_Rs_gather_L11 hd v0 v1 v2 v3 hX n (v4 + (1 : Int32)) σ13)
    exact J_some (fun h => j_icmp_t rfl (cc_ge_t h5) (j_weak (l := [none, none, none, some (.ref v3), none, none]) (And.intro (Or.inl rfl) (And.intro (Or.inl rfl) (And.intro (Or.inl rfl) (And.intro (Or.inr rfl) (And.intro (Or.inl rfl) (And.intro (Or.inr rfl) True.intro)))))) (hX _ _ h)))

def f_Rs_gather (v0 : Nat) (v1 : Int32) (v2 : Int32) (σ : q_H) : Option ((Nat) × q_H) := q_ma σ 9 [.null] fun σ1 a2 => q_sq (f_Ty_init a2 σ1) fun (_ : Unit) σ3 => q_sq (f_Rs_gather_L11 v0 v1 v2 a2 q_FU (0 : Int32) σ3) fun (t15 : Unit) σ16 => some (a2, σ16)
set_option maxRecDepth 100000 in
theorem b_Rs_gather {fo : Option Nat} {d : Nat} (hd : 4 ≤ d + 1) {o : q_O} {σ' : q_H} (v0 : Nat) (v1 : Int32) (v2 : Int32) (σ : q_H) : q_J (fun (r : Nat) (σ1 : q_H) => o = .inl (some (.ref r)) ∧ σ' = σ1) (f_Rs_gather v0 v1 v2 σ) (q_G (q_rf fo) d m_Rs_gather o σ' 0 [some (.ref v0), some (.int v1), some (.int v2), none, none, none] [] σ) := by
  unfold f_Rs_gather
  refine J_ma fun σ1 a2 hσ1 ha2 => ?_
  refine J_cl fun _ σ3 hσ3 => ?_
  refine J_sq (fun (t15 : Unit) (σ16 : q_H) => q_G (q_rf fo) d m_Rs_gather o σ' 51 [none, none, none, some (.ref a2), none, none] [] σ16) (q_J.step (fun g => j_newk2 [.null] rfl rfl rfl hσ1 ha2 (j_dup rfl rfl (j_i0 [.ref a2] [.ref a2] rfl rfl rfl rfl rfl rfl (t_Ty_init (by omega) hσ3) (j_astore_n [some (.ref v0), some (.int v1), some (.int v2), some (.ref a2), none, none] rfl rfl (Or.inr rfl) rfl (j_iconst (0 : Int32) rfl k32_0 (j_istore [some (.ref v0), some (.int v1), some (.int v2), some (.ref a2), some (.int (0 : Int32)), none] rfl rfl (Or.inr rfl) rfl (g))))))) (l_Rs_gather_L11 hd v0 v1 v2 a2 (fun _ _ h => h) q_FU (0 : Int32) σ3)) (fun t15 σ16 => ?_)
  exact J_some (fun h => j_aload_n rfl rfl (j_aret (x := some a2) rfl (Or.inl ⟨_, rfl⟩) h))
theorem t_Rs_gather {fo : Option Nat} {d : Nat} (hd : 4 ≤ d) {v0 : Nat} {v1 : Int32} {v2 : Int32} {σ σ1 : q_H} {r : Nat} (h : f_Rs_gather v0 v1 v2 σ = some (r, σ1)) : q_Rel (q_rf fo) q_Ms d 119 [.ref v0, .int v1, .int v2] σ (.inl (some (.ref r))) σ1 := by
  obtain ⟨d, rfl⟩ : ∃ d1, d = d1 + 1 := ⟨d - 1, by omega⟩
  exact q_Rel.of rfl rfl (b_Rs_gather hd _ _ _ σ _ _ h ⟨rfl, rfl⟩)

def f_Rs_moveOf (v0 : Nat) (v1 : Int32) (v2 : Nat) (σ : q_H) : Option ((Option Nat) × q_H) := (q_gr (q_gf σ 0 v0 3)).bind fun x1 => (q_ob σ 2 x1).bind fun w2 => q_sq (f_Sf_pageOf x1 v1 σ) fun x4 σ3 => match x4 with | none => (some (none, σ3)) | some a5 => ((q_ob σ3 9 v2).bind fun w6 => q_sq (f_Ty_picked v2 (0 : Int32) (0 : Int32) σ3) fun x8 σ7 => (q_ob σ7 9 v2).bind fun w9 => q_sq (f_Ty_all v2 (0 : Int32) σ7) fun x11 σ10 => (q_gr (q_gf σ10 8 a5 11)).bind fun x12 => (q_ob σ10 9 x12).bind fun w13 => q_sq (f_Ty_picked x12 (0 : Int32) (0 : Int32) σ10) fun x15 σ14 => (q_gr (q_gf σ14 8 a5 11)).bind fun x16 => (q_ob σ14 9 x16).bind fun w17 => q_sq (f_Ty_all x16 (0 : Int32) σ14) fun x19 σ18 => q_sq (f_Ra_difference ((x8 - x15).toInt64) ((x11 - x19).toInt64) x8.toInt64 x11.toInt64 σ18) fun x21 σ20 => some (x21, σ20))
set_option maxRecDepth 100000 in
theorem b_Rs_moveOf {fo : Option Nat} {d : Nat} (hd : 4 ≤ d + 1) {o : q_O} {σ' : q_H} (v0 : Nat) (v1 : Int32) (v2 : Nat) (σ : q_H) : q_J (fun (r : Option Nat) (σ1 : q_H) => o = .inl (some (q_rf r)) ∧ σ' = σ1) (f_Rs_moveOf v0 v1 v2 σ) (q_G (q_rf fo) d m_Rs_moveOf o σ' 0 [some (.ref v0), some (.int v1), some (.ref v2), none, none, none] [] σ) := by
  unfold f_Rs_moveOf
  refine J_bind fun x1 hx1 => ?_
  refine J_bind fun w2 hw2 => ?_
  refine J_cl fun x4 σ3 hσ3 => ?_
  refine q_J.step (fun g => j_aload_n rfl rfl (j_gfr rfl hx1 (j_iload_n rfl rfl (j_v1 [.ref x1, .int v1] [] rfl rfl rfl rfl rfl rfl hw2 (Or.inl rfl) (t_Sf_pageOf (by omega) hσ3) (j_astore_nO (x := x4) [some (.ref v0), some (.int v1), some (.ref v2), some (q_rf x4), none, none] rfl rfl (Or.inr rfl) rfl (j_aload_nO (x := x4) rfl rfl (g))))))) ?_
  cases ha5 : x4 with
  | none =>
    try subst ha5
    exact J_some (fun h => j_non_f rfl (j_null rfl (j_aret (x := none) rfl (Or.inl ⟨_, rfl⟩) h)))
  | some a5 =>
    try subst ha5
    refine J_bind fun w6 hw6 => ?_
    refine J_cl fun x8 σ7 hσ7 => ?_
    refine J_bind fun w9 hw9 => ?_
    refine J_cl fun x11 σ10 hσ10 => ?_
    refine J_bind fun x12 hx12 => ?_
    refine J_bind fun w13 hw13 => ?_
    refine J_cl fun x15 σ14 hσ14 => ?_
    refine J_bind fun x16 hx16 => ?_
    refine J_bind fun w17 hw17 => ?_
    refine J_cl fun x19 σ18 hσ18 => ?_
    refine J_cl fun x21 σ20 hσ20 => ?_
    exact J_some (fun h => j_non_t rfl (j_aload_n rfl rfl (j_iconst (0 : Int32) rfl k32_0 (j_iconst (0 : Int32) rfl k32_0 (j_v1 [.ref v2, .int (0 : Int32), .int (0 : Int32)] [] rfl rfl rfl rfl rfl rfl hw6 (Or.inl rfl) (t_Ty_picked (by omega) hσ7) (j_istore [some (.ref v0), some (.int v1), some (.ref v2), some (.ref a5), some (.int x8), none] rfl rfl (Or.inr rfl) rfl (j_aload_n rfl rfl (j_iconst (0 : Int32) rfl k32_0 (j_v1 [.ref v2, .int (0 : Int32)] [] rfl rfl rfl rfl rfl rfl hw9 (Or.inl rfl) (t_Ty_all (by omega) hσ10) (j_istore [some (.ref v0), some (.int v1), some (.ref v2), some (.ref a5), some (.int x8), some (.int x11)] rfl rfl (Or.inr rfl) rfl (j_iload rfl rfl (j_aload_n rfl rfl (j_gfr rfl hx12 (j_iconst (0 : Int32) rfl k32_0 (j_iconst (0 : Int32) rfl k32_0 (j_v1 [.ref x12, .int (0 : Int32), .int (0 : Int32)] [.int x8] rfl rfl rfl rfl rfl rfl hw13 (Or.inl rfl) (t_Ty_picked (by omega) hσ14) (j_isub rfl (j_i2l rfl (j_iload rfl rfl (j_aload_n rfl rfl (j_gfr rfl hx16 (j_iconst (0 : Int32) rfl k32_0 (j_v1 [.ref x16, .int (0 : Int32)] [.int x11, .long ((x8 - x15).toInt64)] rfl rfl rfl rfl rfl rfl hw17 (Or.inl rfl) (t_Ty_all (by omega) hσ18) (j_isub rfl (j_i2l rfl (j_iload rfl rfl (j_i2l rfl (j_iload rfl rfl (j_i2l rfl (j_s1 [.long ((x8 - x15).toInt64), .long ((x11 - x19).toInt64), .long x8.toInt64, .long x11.toInt64] [] rfl rfl rfl rfl rfl (t_Ra_difference (by omega) hσ20) (j_aret (x := x21) rfl (Or.inl ⟨_, rfl⟩) h)))))))))))))))))))))))))))))))
theorem t_Rs_moveOf {fo : Option Nat} {d : Nat} (hd : 4 ≤ d) {v0 : Nat} {v1 : Int32} {v2 : Nat} {σ σ1 : q_H} {r : Option Nat} (h : f_Rs_moveOf v0 v1 v2 σ = some (r, σ1)) : q_Rel (q_rf fo) q_Ms d 123 [.ref v0, .int v1, .ref v2] σ (.inl (some (q_rf r))) σ1 := by
  obtain ⟨d, rfl⟩ : ∃ d1, d = d1 + 1 := ⟨d - 1, by omega⟩
  exact q_Rel.of rfl rfl (b_Rs_moveOf hd _ _ _ σ _ _ h ⟨rfl, rfl⟩)

def f_Rs_heaping_L42 (v0 : Nat) (v1 : Int32) (v2 : Int32) (v3 : Int32) (v6 : Int32) (v7 : Option Nat) : Nat → Int32 → Int32 → Int32 → q_H → Option ((Int32 × Int32) × q_H)
  | 0, _, _, _, _ => none
  | n + 1, v4, v5, v8, σ => match v7 with | none => (some ((v4, v5), σ)) | some a9 => ((q_gi (q_gf σ 8 a9 0)).bind fun x10 => if v8 < x10 then ((q_gr (q_gf σ 8 a9 5)).bind fun x12 => (q_gi (q_ga σ 20 x12 v8)).bind fun x13 => q_sq (f_Rs_isFrom (10 : Int32) x13 (69 : Int32) σ) fun x15 σ14 => if x15 = (0 : Int32) then (f_Rs_heaping_L42 v0 v1 v2 v3 v6 v7 n v4 v5 (v8 + (1 : Int32)) σ14) else ((q_gr (q_gf σ14 8 a9 5)).bind fun x17 => (q_gi (q_ga σ14 20 x17 v8)).bind fun x18 => if (x18 - x18 / (5 : Int32) * (5 : Int32)) = (0 : Int32) then (f_Rs_heaping_L42 v0 v1 v2 v3 v6 v7 n (v4 + (1 : Int32)) (v5 + (1 : Int32)) (v8 + (1 : Int32)) σ14) else (f_Rs_heaping_L42 v0 v1 v2 v3 v6 v7 n (v4 + (0 : Int32)) (v5 + (1 : Int32)) (v8 + (1 : Int32)) σ14))) else (some ((v4, v5), σ)))
set_option maxRecDepth 100000 in
theorem l_Rs_heaping_L42 {fo : Option Nat} {d : Nat} (hd : 4 ≤ d + 1) {o : q_O} {σ' : q_H} {E : (Int32 × Int32) → q_H → Prop} (v0 : Nat) (v1 : Int32) (v2 : Int32) (v3 : Int32) (v6 : Int32) (v7 : Option Nat) (hX : ∀ (t : Int32 × Int32) σ1, E (t) σ1 → q_G (q_rf fo) d m_Rs_heaping o σ' 107 [some (.ref v0), some (.int v1), some (.int v2), some (.int v3), some (.int t.1), some (.int t.2), some (.int v6), none, none] [] σ1)  : ∀ (n : Nat) (v4 : Int32) (v5 : Int32) (v8 : Int32) (σ : q_H), q_J E (f_Rs_heaping_L42 v0 v1 v2 v3 v6 v7 n v4 v5 v8 σ) (q_G (q_rf fo) d m_Rs_heaping o σ' 42 [some (.ref v0), some (.int v1), some (.int v2), some (.int v3), some (.int v4), some (.int v5), some (.int v6), some (q_rf v7), some (.int v8)] [] σ)
  | 0, v4, v5, v8, σ => J_none
  | n + 1, v4, v5, v8, σ => by
    unfold f_Rs_heaping_L42
    refine q_J.step (fun g => j_aloadO (x := v7) rfl rfl (g)) ?_
    cases ha9 : v7 with
    | none =>
      try subst ha9
      exact J_some (fun h => j_nul_t rfl (j_weak (l := [some (.ref v0), some (.int v1), some (.int v2), some (.int v3), some (.int v4), some (.int v5), some (.int v6), none, none]) (And.intro (Or.inr rfl) (And.intro (Or.inr rfl) (And.intro (Or.inr rfl) (And.intro (Or.inr rfl) (And.intro (Or.inr rfl) (And.intro (Or.inr rfl) (And.intro (Or.inr rfl) (And.intro (Or.inl rfl) (And.intro (Or.inl rfl) True.intro))))))))) (hX _ _ h)))
    | some a9 =>
      try subst ha9
      refine J_bind fun x10 hx10 => ?_
      refine q_J.step (fun g => j_nul_f rfl (j_iload rfl rfl (j_aload rfl rfl (j_gfi rfl hx10 (g))))) ?_
      refine J_ite (fun h11 => ?_) (fun h11 => ?_)
      · refine J_bind fun x12 hx12 => ?_
        refine J_bind fun x13 hx13 => ?_
        refine J_cl fun x15 σ14 hσ14 => ?_
        refine q_J.step (fun g => j_icmp_f rfl (cc_ge_f h11) (j_bipush (10 : Int32) rfl kb_10 (j_aload rfl rfl (j_gfr rfl hx12 (j_iload rfl rfl (j_ial rfl hx13 (j_bipush (69 : Int32) rfl kb_69 (j_s1 [.int (10 : Int32), .int x13, .int (69 : Int32)] [] rfl rfl rfl rfl rfl (t_Rs_isFrom (by omega) hσ14) (g))))))))) ?_
        refine J_ite (fun h16 => ?_) (fun h16 => ?_)
        · exact q_J.step (fun g => j_if_t rfl (cc_eq_t h16) (j_iinc [some (.ref v0), some (.int v1), some (.int v2), some (.int v3), some (.int v4), some (.int v5), some (.int v6), some (.ref a9), some (.int (v8 + (1 : Int32)))] (v8 + (1 : Int32)) rfl rfl (by rw [k32_1]) (Or.inr rfl) rfl (j_goto rfl (g)))) (l_Rs_heaping_L42 hd v0 v1 v2 v3 v6 (some a9) hX n v4 v5 (v8 + (1 : Int32)) σ14)
        refine J_bind fun x17 hx17 => ?_
        refine J_bind fun x18 hx18 => ?_
        refine q_J.step (fun g => j_if_f rfl (cc_eq_f h16) (j_iinc [some (.ref v0), some (.int v1), some (.int v2), some (.int v3), some (.int v4), some (.int (v5 + (1 : Int32))), some (.int v6), some (.ref a9), some (.int v8)] (v5 + (1 : Int32)) rfl rfl (by rw [k32_1]) (Or.inr rfl) rfl (j_iload rfl rfl (j_aload rfl rfl (j_gfr rfl hx17 (j_iload rfl rfl (j_ial rfl hx18 (j_iconst (5 : Int32) rfl k32_5 (j_irem rfl (by decide) (g)))))))))) ?_
        refine J_ite (fun h19 => ?_) (fun h19 => ?_)
        · exact q_J.step (fun g => j_if_f rfl (cc_ne_f h19) (j_iconst (1 : Int32) rfl k32_1 (j_goto rfl (j_iadd rfl (j_istore [some (.ref v0), some (.int v1), some (.int v2), some (.int v3), some (.int (v4 + (1 : Int32))), some (.int (v5 + (1 : Int32))), some (.int v6), some (.ref a9), some (.int v8)] rfl rfl (Or.inr rfl) rfl (j_iinc [some (.ref v0), some (.int v1), some (.int v2), some (.int v3), some (.int (v4 + (1 : Int32))), some (.int (v5 + (1 : Int32))), some (.int v6), some (.ref a9), some (.int (v8 + (1 : Int32)))] (v8 + (1 : Int32)) rfl rfl (by rw [k32_1]) (Or.inr rfl) rfl (j_goto rfl (g)))))))) (l_Rs_heaping_L42 hd v0 v1 v2 v3 v6 (some a9) hX n (v4 + (1 : Int32)) (v5 + (1 : Int32)) (v8 + (1 : Int32)) σ14)
        exact q_J.step (fun g => j_if_t rfl (cc_ne_t h19) (j_iconst (0 : Int32) rfl k32_0 (j_iadd rfl (j_istore [some (.ref v0), some (.int v1), some (.int v2), some (.int v3), some (.int (v4 + (0 : Int32))), some (.int (v5 + (1 : Int32))), some (.int v6), some (.ref a9), some (.int v8)] rfl rfl (Or.inr rfl) rfl (j_iinc [some (.ref v0), some (.int v1), some (.int v2), some (.int v3), some (.int (v4 + (0 : Int32))), some (.int (v5 + (1 : Int32))), some (.int v6), some (.ref a9), some (.int (v8 + (1 : Int32)))] (v8 + (1 : Int32)) rfl rfl (by rw [k32_1]) (Or.inr rfl) rfl (j_goto rfl (g))))))) (l_Rs_heaping_L42 hd v0 v1 v2 v3 v6 (some a9) hX n (v4 + (0 : Int32)) (v5 + (1 : Int32)) (v8 + (1 : Int32)) σ14)
      exact J_some (fun h => j_icmp_t rfl (cc_ge_t h11) (j_weak (l := [some (.ref v0), some (.int v1), some (.int v2), some (.int v3), some (.int v4), some (.int v5), some (.int v6), none, none]) (And.intro (Or.inr rfl) (And.intro (Or.inr rfl) (And.intro (Or.inr rfl) (And.intro (Or.inr rfl) (And.intro (Or.inr rfl) (And.intro (Or.inr rfl) (And.intro (Or.inr rfl) (And.intro (Or.inl rfl) (And.intro (Or.inl rfl) True.intro))))))))) (hX _ _ h)))

def f_Rs_heaping_L19 (v0 : Nat) (v1 : Int32) (v2 : Int32) (v3 : Int32) : Nat → Int32 → Int32 → Int32 → q_H → Option ((Int32 × Int32) × q_H)
  | 0, _, _, _, _ => none
  | n + 1, v4, v5, v6, σ => if v6 < (24 : Int32) then ((q_gr (q_gf σ 0 v0 3)).bind fun x5 => (q_ob σ 2 x5).bind fun w6 => q_sq (f_Sf_pageWithin x5 v6 v1 v2 σ) fun x8 σ7 => q_sq (f_Rs_heaping_L42 v0 v1 v2 v3 v6 x8 q_FU v4 v5 (0 : Int32) σ7) fun (t20 : Int32 × Int32) σ21 => f_Rs_heaping_L19 v0 v1 v2 v3 n t20.1 t20.2 (v6 + (1 : Int32)) σ21) else (some ((v4, v5), σ))
set_option maxRecDepth 100000 in
theorem l_Rs_heaping_L19 {fo : Option Nat} {d : Nat} (hd : 4 ≤ d + 1) {o : q_O} {σ' : q_H} {E : (Int32 × Int32) → q_H → Prop} (v0 : Nat) (v1 : Int32) (v2 : Int32) (v3 : Int32) (hX : ∀ (t : Int32 × Int32) σ1, E (t) σ1 → q_G (q_rf fo) d m_Rs_heaping o σ' 113 [none, none, none, some (.int v3), some (.int t.1), some (.int t.2), none, none, none] [] σ1)  : ∀ (n : Nat) (v4 : Int32) (v5 : Int32) (v6 : Int32) (σ : q_H), q_J E (f_Rs_heaping_L19 v0 v1 v2 v3 n v4 v5 v6 σ) (q_G (q_rf fo) d m_Rs_heaping o σ' 19 [some (.ref v0), some (.int v1), some (.int v2), some (.int v3), some (.int v4), some (.int v5), some (.int v6), none, none] [] σ)
  | 0, v4, v5, v6, σ => J_none
  | n + 1, v4, v5, v6, σ => by
    unfold f_Rs_heaping_L19
    refine q_J.step (fun g => j_iload rfl rfl (j_bipush (24 : Int32) rfl kb_24 (g))) ?_
    refine J_ite (fun h4 => ?_) (fun h4 => ?_)
    · refine J_bind fun x5 hx5 => ?_
      refine J_bind fun w6 hw6 => ?_
      refine J_cl fun x8 σ7 hσ7 => ?_
      refine J_sq (fun (t20 : Int32 × Int32) (σ21 : q_H) => q_G (q_rf fo) d m_Rs_heaping o σ' 107 [some (.ref v0), some (.int v1), some (.int v2), some (.int v3), some (.int t20.1), some (.int t20.2), some (.int v6), none, none] [] σ21) (q_J.step (fun g => j_icmp_f rfl (cc_ge_f h4) (j_aload_n rfl rfl (j_gfr rfl hx5 (j_iload rfl rfl (j_iload_n rfl rfl (j_iload_n rfl rfl (j_v1 [.ref x5, .int v6, .int v1, .int v2] [] rfl rfl rfl rfl rfl rfl hw6 (Or.inl rfl) (t_Sf_pageWithin (by omega) hσ7) (j_astoreO (x := x8) [some (.ref v0), some (.int v1), some (.int v2), some (.int v3), some (.int v4), some (.int v5), some (.int v6), some (q_rf x8), none] rfl rfl (Or.inr rfl) rfl (j_iconst (0 : Int32) rfl k32_0 (j_istore [some (.ref v0), some (.int v1), some (.int v2), some (.int v3), some (.int v4), some (.int v5), some (.int v6), some (q_rf x8), some (.int (0 : Int32))] rfl rfl (Or.inr (q_rf_cat _)) rfl (g))))))))))) (l_Rs_heaping_L42 hd v0 v1 v2 v3 v6 x8 (fun _ _ h => h) q_FU v4 v5 (0 : Int32) σ7)) (fun t20 σ21 => ?_)
      exact q_J.step (fun g => j_iinc [some (.ref v0), some (.int v1), some (.int v2), some (.int v3), some (.int t20.1), some (.int t20.2), some (.int (v6 + (1 : Int32))), none, none] (v6 + (1 : Int32)) rfl rfl (by rw [k32_1]) (Or.inr rfl) rfl (j_goto rfl (g))) (l_Rs_heaping_L19 hd v0 v1 v2 v3 hX n t20.1 t20.2 (v6 + (1 : Int32)) σ21)
    exact J_some (fun h => j_icmp_t rfl (cc_ge_t h4) (j_weak (l := [none, none, none, some (.int v3), some (.int v4), some (.int v5), none, none, none]) (And.intro (Or.inl rfl) (And.intro (Or.inl rfl) (And.intro (Or.inl rfl) (And.intro (Or.inr rfl) (And.intro (Or.inr rfl) (And.intro (Or.inr rfl) (And.intro (Or.inl rfl) (And.intro (Or.inr rfl) (And.intro (Or.inr rfl) True.intro))))))))) (hX _ _ h)))

def f_Rs_heaping (v0 : Nat) (v1 : Int32) (v2 : Int32) (v3 : Int32) (σ : q_H) : Option ((Int32) × q_H) := q_sq (f_Rs_isScope v1 v2 σ) fun x2 σ1 => if x2 = (0 : Int32) then (some ((-1 : Int32), σ1)) else (q_sq (f_Rs_heaping_L19 v0 v1 v2 v3 q_FU (0 : Int32) (0 : Int32) (0 : Int32) σ1) fun (t22 : Int32 × Int32) σ23 => q_sq (f_Ra_of (((5 : Int32) * t22.1).toInt64) t22.2.toInt64 σ23) fun x25 σ24 => q_sq (f_Rs_partOf x25 v3 σ24) fun x27 σ26 => some (x27, σ26))
set_option maxRecDepth 100000 in
theorem b_Rs_heaping {fo : Option Nat} {d : Nat} (hd : 4 ≤ d + 1) {o : q_O} {σ' : q_H} (v0 : Nat) (v1 : Int32) (v2 : Int32) (v3 : Int32) (σ : q_H) : q_J (fun (r : Int32) (σ1 : q_H) => o = .inl (some (.int r)) ∧ σ' = σ1) (f_Rs_heaping v0 v1 v2 v3 σ) (q_G (q_rf fo) d m_Rs_heaping o σ' 0 [some (.ref v0), some (.int v1), some (.int v2), some (.int v3), none, none, none, none, none] [] σ) := by
  unfold f_Rs_heaping
  refine J_cl fun x2 σ1 hσ1 => ?_
  refine q_J.step (fun g => j_iload_n rfl rfl (j_iload_n rfl rfl (j_s1 [.int v1, .int v2] [] rfl rfl rfl rfl rfl (t_Rs_isScope (by omega) hσ1) (g)))) ?_
  refine J_ite (fun h3 => ?_) (fun h3 => ?_)
  · exact J_some (fun h => j_if_f rfl (cc_ne_f h3) (j_iconst (-1 : Int32) rfl k32_m1 (j_iret rfl rfl h)))
  refine J_sq (fun (t22 : Int32 × Int32) (σ23 : q_H) => q_G (q_rf fo) d m_Rs_heaping o σ' 113 [none, none, none, some (.int v3), some (.int t22.1), some (.int t22.2), none, none, none] [] σ23) (q_J.step (fun g => j_if_t rfl (cc_ne_t h3) (j_iconst (0 : Int32) rfl k32_0 (j_istore [some (.ref v0), some (.int v1), some (.int v2), some (.int v3), some (.int (0 : Int32)), none, none, none, none] rfl rfl (Or.inr rfl) rfl (j_iconst (0 : Int32) rfl k32_0 (j_istore [some (.ref v0), some (.int v1), some (.int v2), some (.int v3), some (.int (0 : Int32)), some (.int (0 : Int32)), none, none, none] rfl rfl (Or.inr rfl) rfl (j_iconst (0 : Int32) rfl k32_0 (j_istore [some (.ref v0), some (.int v1), some (.int v2), some (.int v3), some (.int (0 : Int32)), some (.int (0 : Int32)), some (.int (0 : Int32)), none, none] rfl rfl (Or.inr rfl) rfl (g)))))))) (l_Rs_heaping_L19 hd v0 v1 v2 v3 (fun _ _ h => h) q_FU (0 : Int32) (0 : Int32) (0 : Int32) σ1)) (fun t22 σ23 => ?_)
  refine J_cl fun x25 σ24 hσ24 => ?_
  refine J_cl fun x27 σ26 hσ26 => ?_
  exact J_some (fun h => j_iconst (5 : Int32) rfl k32_5 (j_iload rfl rfl (j_imul rfl (j_i2l rfl (j_iload rfl rfl (j_i2l rfl (j_s1 [.long (((5 : Int32) * t22.1).toInt64), .long t22.2.toInt64] [] rfl rfl rfl rfl rfl (t_Ra_of (by omega) hσ24) (j_iload_n rfl rfl (j_s1 [q_rf x25, .int v3] [] rfl rfl rfl rfl rfl (t_Rs_partOf (by omega) hσ26) (j_iret rfl rfl h))))))))))
theorem t_Rs_heaping {fo : Option Nat} {d : Nat} (hd : 4 ≤ d) {v0 : Nat} {v1 : Int32} {v2 : Int32} {v3 : Int32} {σ σ1 : q_H} {r : Int32} (h : f_Rs_heaping v0 v1 v2 v3 σ = some (r, σ1)) : q_Rel (q_rf fo) q_Ms d 127 [.ref v0, .int v1, .int v2, .int v3] σ (.inl (some (.int r))) σ1 := by
  obtain ⟨d, rfl⟩ : ∃ d1, d = d1 + 1 := ⟨d - 1, by omega⟩
  exact q_Rel.of rfl rfl (b_Rs_heaping hd _ _ _ _ σ _ _ h ⟨rfl, rfl⟩)

def f_Rs_fit (v0 : Nat) (v1 : Int32) (v2 : Int32) (σ : q_H) : Option ((Int64) × q_H) := q_sq (f_Rs_isTable v1 σ) fun x2 σ1 => if x2 = (0 : Int32) then (some ((-1 : Int64), σ1)) else (q_sq (f_Rs_isFrom (0 : Int32) v2 (16 : Int32) σ1) fun x5 σ4 => if x5 = (0 : Int32) then (some ((-1 : Int64), σ4)) else ((q_gr (q_gf σ4 0 v0 7)).bind fun x7 => (q_ob σ4 0 v0).bind fun w8 => q_sq (f_Rs_groupLines v0 σ4) fun x10 σ9 => (q_ob σ9 4 x7).bind fun w11 => q_sq (f_Li_misfit x7 v1 v2 x10 σ9) fun x13 σ12 => some (x13, σ12)))
set_option maxRecDepth 100000 in
theorem b_Rs_fit {fo : Option Nat} {d : Nat} (hd : 4 ≤ d + 1) {o : q_O} {σ' : q_H} (v0 : Nat) (v1 : Int32) (v2 : Int32) (σ : q_H) : q_J (fun (r : Int64) (σ1 : q_H) => o = .inl (some (.long r)) ∧ σ' = σ1) (f_Rs_fit v0 v1 v2 σ) (q_G (q_rf fo) d m_Rs_fit o σ' 0 [some (.ref v0), some (.int v1), some (.int v2)] [] σ) := by
  unfold f_Rs_fit
  refine J_cl fun x2 σ1 hσ1 => ?_
  refine q_J.step (fun g => j_iload_n rfl rfl (j_s1 [.int v1] [] rfl rfl rfl rfl rfl (t_Rs_isTable (by omega) hσ1) (g))) ?_
  refine J_ite (fun h3 => ?_) (fun h3 => ?_)
  · exact J_some (fun h => j_if_t rfl (cc_eq_t h3) (j_ldc2 (-1 : Int64) rfl kw_m1 (j_lret rfl rfl h)))
  refine J_cl fun x5 σ4 hσ4 => ?_
  refine q_J.step (fun g => j_if_f rfl (cc_eq_f h3) (j_iconst (0 : Int32) rfl k32_0 (j_iload_n rfl rfl (j_bipush (16 : Int32) rfl kb_16 (j_s1 [.int (0 : Int32), .int v2, .int (16 : Int32)] [] rfl rfl rfl rfl rfl (t_Rs_isFrom (by omega) hσ4) (g)))))) ?_
  refine J_ite (fun h6 => ?_) (fun h6 => ?_)
  · exact J_some (fun h => j_if_f rfl (cc_ne_f h6) (j_ldc2 (-1 : Int64) rfl kw_m1 (j_lret rfl rfl h)))
  refine J_bind fun x7 hx7 => ?_
  refine J_bind fun w8 hw8 => ?_
  refine J_cl fun x10 σ9 hσ9 => ?_
  refine J_bind fun w11 hw11 => ?_
  refine J_cl fun x13 σ12 hσ12 => ?_
  exact J_some (fun h => j_if_t rfl (cc_ne_t h6) (j_aload_n rfl rfl (j_gfr rfl hx7 (j_iload_n rfl rfl (j_iload_n rfl rfl (j_aload_n rfl rfl (j_v1 [.ref v0] [.int v2, .int v1, .ref x7] rfl rfl rfl rfl rfl rfl hw8 (Or.inl rfl) (t_Rs_groupLines (by omega) hσ9) (j_v1 [.ref x7, .int v1, .int v2, .ref x10] [] rfl rfl rfl rfl rfl rfl hw11 (Or.inl rfl) (t_Li_misfit (by omega) hσ12) (j_lret rfl rfl h)))))))))
theorem t_Rs_fit {fo : Option Nat} {d : Nat} (hd : 4 ≤ d) {v0 : Nat} {v1 : Int32} {v2 : Int32} {σ σ1 : q_H} {r : Int64} (h : f_Rs_fit v0 v1 v2 σ = some (r, σ1)) : q_Rel (q_rf fo) q_Ms d 135 [.ref v0, .int v1, .int v2] σ (.inl (some (.long r))) σ1 := by
  obtain ⟨d, rfl⟩ : ∃ d1, d = d1 + 1 := ⟨d - 1, by omega⟩
  exact q_Rel.of rfl rfl (b_Rs_fit hd _ _ _ σ _ _ h ⟨rfl, rfl⟩)

def f_Rs_best_L34 (v0 : Nat) (v1 : Int32) (v2 : Nat) : Nat → Int32 → Int64 → Int32 → q_H → Option ((Int32) × q_H)
  | 0, _, _, _, _ => none
  | n + 1, v3, v4, v6, σ => if v6 < (4 : Int32) then ((q_gr (q_gf σ 0 v0 7)).bind fun x12 => (q_ob σ 4 x12).bind fun w13 => q_sq (f_Li_misfit x12 v6 v1 v2 σ) fun x15 σ14 => if x15 < v4 then (f_Rs_best_L34 v0 v1 v2 n v6 x15 (v6 + (1 : Int32)) σ14) else (f_Rs_best_L34 v0 v1 v2 n v3 v4 (v6 + (1 : Int32)) σ14)) else (some (v3, σ))
set_option maxRecDepth 100000 in
theorem l_Rs_best_L34 {fo : Option Nat} {d : Nat} (hd : 4 ≤ d + 1) {o : q_O} {σ' : q_H} {E : (Int32) → q_H → Prop} (v0 : Nat) (v1 : Int32) (v2 : Nat) (hX : ∀ (t : Int32) σ1, E (t) σ1 → q_G (q_rf fo) d m_Rs_best o σ' 74 [none, none, none, some (.int t), none, none, none, none, none] [] σ1)  : ∀ (n : Nat) (v3 : Int32) (v4 : Int64) (v6 : Int32) (σ : q_H), q_J E (f_Rs_best_L34 v0 v1 v2 n v3 v4 v6 σ) (q_G (q_rf fo) d m_Rs_best o σ' 34 [some (.ref v0), some (.int v1), some (.ref v2), some (.int v3), some (.long v4), none, some (.int v6), none, none] [] σ)
  | 0, v3, v4, v6, σ => J_none
  | n + 1, v3, v4, v6, σ => by
    unfold f_Rs_best_L34
    refine q_J.step (fun g => j_iload rfl rfl (j_iconst (4 : Int32) rfl k32_4 (g))) ?_
    refine J_ite (fun h11 => ?_) (fun h11 => ?_)
    · refine J_bind fun x12 hx12 => ?_
      refine J_bind fun w13 hw13 => ?_
      refine J_cl fun x15 σ14 hσ14 => ?_
      refine q_J.step (fun g => j_icmp_f rfl (cc_ge_f h11) (j_aload_n rfl rfl (j_gfr rfl hx12 (j_iload rfl rfl (j_iload_n rfl rfl (j_aload_n rfl rfl (j_v1 [.ref x12, .int v6, .int v1, .ref v2] [] rfl rfl rfl rfl rfl rfl hw13 (Or.inl rfl) (t_Li_misfit (by omega) hσ14) (j_lstore [some (.ref v0), some (.int v1), some (.ref v2), some (.int v3), some (.long v4), none, some (.int v6), some (.long x15), none] rfl rfl (Or.inr rfl) rfl (j_lload rfl rfl (j_lload rfl rfl (j_lcmp rfl (g)))))))))))) ?_
      refine J_ite (fun h16 => ?_) (fun h16 => ?_)
      · exact q_J.step (fun g => j_if_f rfl (lc_ge_f h16) (j_iload rfl rfl (j_istore_n [some (.ref v0), some (.int v1), some (.ref v2), some (.int v6), some (.long v4), none, some (.int v6), some (.long x15), none] rfl rfl (Or.inr rfl) rfl (j_lload rfl rfl (j_lstore [some (.ref v0), some (.int v1), some (.ref v2), some (.int v6), some (.long x15), none, some (.int v6), some (.long x15), none] rfl rfl (Or.inr rfl) rfl (j_iinc [some (.ref v0), some (.int v1), some (.ref v2), some (.int v6), some (.long x15), none, some (.int (v6 + (1 : Int32))), some (.long x15), none] (v6 + (1 : Int32)) rfl rfl (by rw [k32_1]) (Or.inr True.intro) rfl (j_goto rfl (j_weak (l := [some (.ref v0), some (.int v1), some (.ref v2), some (.int v6), some (.long x15), none, some (.int (v6 + (1 : Int32))), none, none]) (And.intro (Or.inr rfl) (And.intro (Or.inr rfl) (And.intro (Or.inr rfl) (And.intro (Or.inr rfl) (And.intro (Or.inr rfl) (And.intro (Or.inr rfl) (And.intro (Or.inr rfl) (And.intro (Or.inl rfl) (And.intro (Or.inr rfl) True.intro))))))))) (g))))))))) (l_Rs_best_L34 hd v0 v1 v2 hX n v6 x15 (v6 + (1 : Int32)) σ14)
      exact q_J.step (fun g => j_if_t rfl (lc_ge_t h16) (j_iinc [some (.ref v0), some (.int v1), some (.ref v2), some (.int v3), some (.long v4), none, some (.int (v6 + (1 : Int32))), some (.long x15), none] (v6 + (1 : Int32)) rfl rfl (by rw [k32_1]) (Or.inr True.intro) rfl (j_goto rfl (j_weak (l := [some (.ref v0), some (.int v1), some (.ref v2), some (.int v3), some (.long v4), none, some (.int (v6 + (1 : Int32))), none, none]) (And.intro (Or.inr rfl) (And.intro (Or.inr rfl) (And.intro (Or.inr rfl) (And.intro (Or.inr rfl) (And.intro (Or.inr rfl) (And.intro (Or.inr rfl) (And.intro (Or.inr rfl) (And.intro (Or.inl rfl) (And.intro (Or.inr rfl) True.intro))))))))) (g))))) (l_Rs_best_L34 hd v0 v1 v2 hX n v3 v4 (v6 + (1 : Int32)) σ14)
    exact J_some (fun h => j_icmp_t rfl (cc_ge_t h11) (j_weak (l := [none, none, none, some (.int v3), none, none, none, none, none]) (And.intro (Or.inl rfl) (And.intro (Or.inl rfl) (And.intro (Or.inl rfl) (And.intro (Or.inr rfl) (And.intro (Or.inl rfl) (And.intro (Or.inr rfl) (And.intro (Or.inl rfl) (And.intro (Or.inr rfl) (And.intro (Or.inr rfl) True.intro))))))))) (hX _ _ h)))

def f_Rs_best (v0 : Nat) (v1 : Int32) (σ : q_H) : Option ((Int32) × q_H) := q_sq (f_Rs_isFrom (0 : Int32) v1 (16 : Int32) σ) fun x2 σ1 => if x2 = (0 : Int32) then (some ((-1 : Int32), σ1)) else ((q_ob σ1 0 v0).bind fun w4 => q_sq (f_Rs_groupLines v0 σ1) fun x6 σ5 => (q_gr (q_gf σ5 0 v0 7)).bind fun x7 => (q_ob σ5 4 x7).bind fun w8 => q_sq (f_Li_misfit x7 (0 : Int32) v1 x6 σ5) fun x10 σ9 => q_sq (f_Rs_best_L34 v0 v1 x6 q_FU (0 : Int32) x10 (1 : Int32) σ9) fun (t17 : Int32) σ18 => some (t17, σ18))
set_option maxRecDepth 100000 in
theorem b_Rs_best {fo : Option Nat} {d : Nat} (hd : 4 ≤ d + 1) {o : q_O} {σ' : q_H} (v0 : Nat) (v1 : Int32) (σ : q_H) : q_J (fun (r : Int32) (σ1 : q_H) => o = .inl (some (.int r)) ∧ σ' = σ1) (f_Rs_best v0 v1 σ) (q_G (q_rf fo) d m_Rs_best o σ' 0 [some (.ref v0), some (.int v1), none, none, none, none, none, none, none] [] σ) := by
  unfold f_Rs_best
  refine J_cl fun x2 σ1 hσ1 => ?_
  refine q_J.step (fun g => j_iconst (0 : Int32) rfl k32_0 (j_iload_n rfl rfl (j_bipush (16 : Int32) rfl kb_16 (j_s1 [.int (0 : Int32), .int v1, .int (16 : Int32)] [] rfl rfl rfl rfl rfl (t_Rs_isFrom (by omega) hσ1) (g))))) ?_
  refine J_ite (fun h3 => ?_) (fun h3 => ?_)
  · exact J_some (fun h => j_if_f rfl (cc_ne_f h3) (j_iconst (-1 : Int32) rfl k32_m1 (j_iret rfl rfl h)))
  refine J_bind fun w4 hw4 => ?_
  refine J_cl fun x6 σ5 hσ5 => ?_
  refine J_bind fun x7 hx7 => ?_
  refine J_bind fun w8 hw8 => ?_
  refine J_cl fun x10 σ9 hσ9 => ?_
  refine J_sq (fun (t17 : Int32) (σ18 : q_H) => q_G (q_rf fo) d m_Rs_best o σ' 74 [none, none, none, some (.int t17), none, none, none, none, none] [] σ18) (q_J.step (fun g => j_if_t rfl (cc_ne_t h3) (j_aload_n rfl rfl (j_v1 [.ref v0] [] rfl rfl rfl rfl rfl rfl hw4 (Or.inl rfl) (t_Rs_groupLines (by omega) hσ5) (j_astore_n [some (.ref v0), some (.int v1), some (.ref x6), none, none, none, none, none, none] rfl rfl (Or.inr rfl) rfl (j_iconst (0 : Int32) rfl k32_0 (j_istore_n [some (.ref v0), some (.int v1), some (.ref x6), some (.int (0 : Int32)), none, none, none, none, none] rfl rfl (Or.inr rfl) rfl (j_aload_n rfl rfl (j_gfr rfl hx7 (j_iconst (0 : Int32) rfl k32_0 (j_iload_n rfl rfl (j_aload_n rfl rfl (j_v1 [.ref x7, .int (0 : Int32), .int v1, .ref x6] [] rfl rfl rfl rfl rfl rfl hw8 (Or.inl rfl) (t_Li_misfit (by omega) hσ9) (j_lstore [some (.ref v0), some (.int v1), some (.ref x6), some (.int (0 : Int32)), some (.long x10), none, none, none, none] rfl rfl (Or.inr rfl) rfl (j_iconst (1 : Int32) rfl k32_1 (j_istore [some (.ref v0), some (.int v1), some (.ref x6), some (.int (0 : Int32)), some (.long x10), none, some (.int (1 : Int32)), none, none] rfl rfl (Or.inr True.intro) rfl (g)))))))))))))))) (l_Rs_best_L34 hd v0 v1 x6 (fun _ _ h => h) q_FU (0 : Int32) x10 (1 : Int32) σ9)) (fun t17 σ18 => ?_)
  exact J_some (fun h => j_iload_n rfl rfl (j_iret rfl rfl h))
theorem t_Rs_best {fo : Option Nat} {d : Nat} (hd : 4 ≤ d) {v0 : Nat} {v1 : Int32} {σ σ1 : q_H} {r : Int32} (h : f_Rs_best v0 v1 σ = some (r, σ1)) : q_Rel (q_rf fo) q_Ms d 137 [.ref v0, .int v1] σ (.inl (some (.int r))) σ1 := by
  obtain ⟨d, rfl⟩ : ∃ d1, d = d1 + 1 := ⟨d - 1, by omega⟩
  exact q_Rel.of rfl rfl (b_Rs_best hd _ _ σ _ _ h ⟨rfl, rfl⟩)

def f_Rs_life (v0 : Nat) (v1 : Int32) (v2 : Int32) (v3 : Int32) (σ : q_H) : Option ((Int32) × q_H) := q_sq (f_Rs_isTable v1 σ) fun x2 σ1 => if x2 = (0 : Int32) then (some ((-1 : Int32), σ1)) else (q_sq (f_Rs_isFrom (0 : Int32) v2 (17 : Int32) σ1) fun x5 σ4 => if x5 = (0 : Int32) then (some ((-1 : Int32), σ4)) else ((q_gr (q_gf σ4 0 v0 7)).bind fun x7 => (q_ob σ4 4 x7).bind fun w8 => q_sq (f_Li_livingBetween x7 v1 (0 : Int32) v2 σ4) fun x10 σ9 => q_sq (f_Ra_of ((5 : Int64) * x10) (2000 : Int64) σ9) fun x12 σ11 => q_sq (f_Rs_partOf x12 v3 σ11) fun x14 σ13 => some (x14, σ13)))
set_option maxRecDepth 100000 in
theorem b_Rs_life {fo : Option Nat} {d : Nat} (hd : 4 ≤ d + 1) {o : q_O} {σ' : q_H} (v0 : Nat) (v1 : Int32) (v2 : Int32) (v3 : Int32) (σ : q_H) : q_J (fun (r : Int32) (σ1 : q_H) => o = .inl (some (.int r)) ∧ σ' = σ1) (f_Rs_life v0 v1 v2 v3 σ) (q_G (q_rf fo) d m_Rs_life o σ' 0 [some (.ref v0), some (.int v1), some (.int v2), some (.int v3)] [] σ) := by
  unfold f_Rs_life
  refine J_cl fun x2 σ1 hσ1 => ?_
  refine q_J.step (fun g => j_iload_n rfl rfl (j_s1 [.int v1] [] rfl rfl rfl rfl rfl (t_Rs_isTable (by omega) hσ1) (g))) ?_
  refine J_ite (fun h3 => ?_) (fun h3 => ?_)
  · exact J_some (fun h => j_if_t rfl (cc_eq_t h3) (j_iconst (-1 : Int32) rfl k32_m1 (j_iret rfl rfl h)))
  refine J_cl fun x5 σ4 hσ4 => ?_
  refine q_J.step (fun g => j_if_f rfl (cc_eq_f h3) (j_iconst (0 : Int32) rfl k32_0 (j_iload_n rfl rfl (j_bipush (17 : Int32) rfl kb_17 (j_s1 [.int (0 : Int32), .int v2, .int (17 : Int32)] [] rfl rfl rfl rfl rfl (t_Rs_isFrom (by omega) hσ4) (g)))))) ?_
  refine J_ite (fun h6 => ?_) (fun h6 => ?_)
  · exact J_some (fun h => j_if_f rfl (cc_ne_f h6) (j_iconst (-1 : Int32) rfl k32_m1 (j_iret rfl rfl h)))
  refine J_bind fun x7 hx7 => ?_
  refine J_bind fun w8 hw8 => ?_
  refine J_cl fun x10 σ9 hσ9 => ?_
  refine J_cl fun x12 σ11 hσ11 => ?_
  refine J_cl fun x14 σ13 hσ13 => ?_
  exact J_some (fun h => j_if_t rfl (cc_ne_t h6) (j_ldc2 (5 : Int64) rfl kw_5 (j_aload_n rfl rfl (j_gfr rfl hx7 (j_iload_n rfl rfl (j_iconst (0 : Int32) rfl k32_0 (j_iload_n rfl rfl (j_v1 [.ref x7, .int v1, .int (0 : Int32), .int v2] [.long (5 : Int64)] rfl rfl rfl rfl rfl rfl hw8 (Or.inl rfl) (t_Li_livingBetween (by omega) hσ9) (j_lmul rfl (j_ldc2 (2000 : Int64) rfl kw_2000 (j_s1 [.long ((5 : Int64) * x10), .long (2000 : Int64)] [] rfl rfl rfl rfl rfl (t_Ra_of (by omega) hσ11) (j_iload_n rfl rfl (j_s1 [q_rf x12, .int v3] [] rfl rfl rfl rfl rfl (t_Rs_partOf (by omega) hσ13) (j_iret rfl rfl h))))))))))))))
theorem t_Rs_life {fo : Option Nat} {d : Nat} (hd : 4 ≤ d) {v0 : Nat} {v1 : Int32} {v2 : Int32} {v3 : Int32} {σ σ1 : q_H} {r : Int32} (h : f_Rs_life v0 v1 v2 v3 σ = some (r, σ1)) : q_Rel (q_rf fo) q_Ms d 138 [.ref v0, .int v1, .int v2, .int v3] σ (.inl (some (.int r))) σ1 := by
  obtain ⟨d, rfl⟩ : ∃ d1, d = d1 + 1 := ⟨d - 1, by omega⟩
  exact q_Rel.of rfl rfl (b_Rs_life hd _ _ _ _ σ _ _ h ⟨rfl, rfl⟩)

def f_Rs_taken (v0 : Nat) (v1 : Int32) (v2 : Int32) (σ : q_H) : Option ((Int32) × q_H) := (q_ob σ 0 v0).bind fun w1 => q_sq (f_Rs_pageOfWife v0 v1 v2 σ) fun x3 σ2 => match x3 with | none => (some ((-1 : Int32), σ2)) | some a4 => ((q_gr (q_gf σ2 8 a4 10)).bind fun x5 => (q_gi (q_ga σ2 20 x5 v2)).bind fun x6 => some (x6, σ2))
set_option maxRecDepth 100000 in
theorem b_Rs_taken {fo : Option Nat} {d : Nat} (hd : 4 ≤ d + 1) {o : q_O} {σ' : q_H} (v0 : Nat) (v1 : Int32) (v2 : Int32) (σ : q_H) : q_J (fun (r : Int32) (σ1 : q_H) => o = .inl (some (.int r)) ∧ σ' = σ1) (f_Rs_taken v0 v1 v2 σ) (q_G (q_rf fo) d m_Rs_taken o σ' 0 [some (.ref v0), some (.int v1), some (.int v2), none] [] σ) := by
  unfold f_Rs_taken
  refine J_bind fun w1 hw1 => ?_
  refine J_cl fun x3 σ2 hσ2 => ?_
  refine q_J.step (fun g => j_aload_n rfl rfl (j_iload_n rfl rfl (j_iload_n rfl rfl (j_v1 [.ref v0, .int v1, .int v2] [] rfl rfl rfl rfl rfl rfl hw1 (Or.inl rfl) (t_Rs_pageOfWife (by omega) hσ2) (j_astore_nO (x := x3) [some (.ref v0), some (.int v1), some (.int v2), some (q_rf x3)] rfl rfl (Or.inr rfl) rfl (j_aload_nO (x := x3) rfl rfl (g))))))) ?_
  cases ha4 : x3 with
  | none =>
    try subst ha4
    exact J_some (fun h => j_non_f rfl (j_iconst (-1 : Int32) rfl k32_m1 (j_goto rfl (j_iret rfl rfl h))))
  | some a4 =>
    try subst ha4
    refine J_bind fun x5 hx5 => ?_
    refine J_bind fun x6 hx6 => ?_
    exact J_some (fun h => j_non_t rfl (j_aload_n rfl rfl (j_gfr rfl hx5 (j_iload_n rfl rfl (j_ial rfl hx6 (j_iret rfl rfl h))))))
theorem t_Rs_taken {fo : Option Nat} {d : Nat} (hd : 4 ≤ d) {v0 : Nat} {v1 : Int32} {v2 : Int32} {σ σ1 : q_H} {r : Int32} (h : f_Rs_taken v0 v1 v2 σ = some (r, σ1)) : q_Rel (q_rf fo) q_Ms d 142 [.ref v0, .int v1, .int v2] σ (.inl (some (.int r))) σ1 := by
  obtain ⟨d, rfl⟩ : ∃ d1, d = d1 + 1 := ⟨d - 1, by omega⟩
  exact q_Rel.of rfl rfl (b_Rs_taken hd _ _ _ σ _ _ h ⟨rfl, rfl⟩)

def f_Rs_lets (v0 : Nat) (v1 : Int32) (v2 : Int32) (v3 : Int32) (σ : q_H) : Option ((Int32) × q_H) := (q_ob σ 0 v0).bind fun w1 => q_sq (f_Rs_pageOfWife v0 v2 v3 σ) fun x3 σ2 => q_sq (f_Rs_isFrom (0 : Int32) v1 (3 : Int32) σ2) fun x5 σ4 => if x5 = (0 : Int32) then (some ((-1 : Int32), σ4)) else (match x3 with | none => (some ((-1 : Int32), σ4)) | some a7 => ((q_ob σ4 0 v0).bind fun w8 => q_sq (f_Rs_fillFacts v0 v2 a7 v3 σ4) fun (_ : Unit) σ9 => (q_gr (q_gf σ9 0 v0 8)).bind fun x11 => (q_gr (q_ga σ9 27 x11 v1)).bind fun x12 => (q_gr (q_gf σ9 0 v0 9)).bind fun x13 => (q_ob σ9 6 x12).bind fun w14 => q_sq (f_La_allows x12 x13 σ9) fun x16 σ15 => if x16 = (0 : Int32) then (some ((0 : Int32), σ15)) else (some ((1 : Int32), σ15))))
set_option maxRecDepth 100000 in
theorem b_Rs_lets {fo : Option Nat} {d : Nat} (hd : 4 ≤ d + 1) {o : q_O} {σ' : q_H} (v0 : Nat) (v1 : Int32) (v2 : Int32) (v3 : Int32) (σ : q_H) : q_J (fun (r : Int32) (σ1 : q_H) => o = .inl (some (.int r)) ∧ σ' = σ1) (f_Rs_lets v0 v1 v2 v3 σ) (q_G (q_rf fo) d m_Rs_lets o σ' 0 [some (.ref v0), some (.int v1), some (.int v2), some (.int v3), none] [] σ) := by
  unfold f_Rs_lets
  refine J_bind fun w1 hw1 => ?_
  refine J_cl fun x3 σ2 hσ2 => ?_
  refine J_cl fun x5 σ4 hσ4 => ?_
  refine q_J.step (fun g => j_aload_n rfl rfl (j_iload_n rfl rfl (j_iload_n rfl rfl (j_v1 [.ref v0, .int v2, .int v3] [] rfl rfl rfl rfl rfl rfl hw1 (Or.inl rfl) (t_Rs_pageOfWife (by omega) hσ2) (j_astoreO (x := x3) [some (.ref v0), some (.int v1), some (.int v2), some (.int v3), some (q_rf x3)] rfl rfl (Or.inr rfl) rfl (j_iconst (0 : Int32) rfl k32_0 (j_iload_n rfl rfl (j_iconst (3 : Int32) rfl k32_3 (j_s1 [.int (0 : Int32), .int v1, .int (3 : Int32)] [] rfl rfl rfl rfl rfl (t_Rs_isFrom (by omega) hσ4) (g)))))))))) ?_
  refine J_ite (fun h6 => ?_) (fun h6 => ?_)
  · exact J_some (fun h => j_if_t rfl (cc_eq_t h6) (j_iconst (-1 : Int32) rfl k32_m1 (j_iret rfl rfl h)))
  refine q_J.step (fun g => j_if_f rfl (cc_eq_f h6) (j_aloadO (x := x3) rfl rfl (g))) ?_
  cases ha7 : x3 with
  | none =>
    try subst ha7
    exact J_some (fun h => j_non_f rfl (j_iconst (-1 : Int32) rfl k32_m1 (j_iret rfl rfl h)))
  | some a7 =>
    try subst ha7
    refine J_bind fun w8 hw8 => ?_
    refine J_cl fun _ σ9 hσ9 => ?_
    refine J_bind fun x11 hx11 => ?_
    refine J_bind fun x12 hx12 => ?_
    refine J_bind fun x13 hx13 => ?_
    refine J_bind fun w14 hw14 => ?_
    refine J_cl fun x16 σ15 hσ15 => ?_
    refine q_J.step (fun g => j_non_t rfl (j_aload_n rfl rfl (j_iload_n rfl rfl (j_aload rfl rfl (j_iload_n rfl rfl (j_v0 [.ref v0, .int v2, .ref a7, .int v3] [] rfl rfl rfl rfl rfl rfl hw8 (Or.inl rfl) (t_Rs_fillFacts (by omega) hσ9) (j_aload_n rfl rfl (j_gfr rfl hx11 (j_iload_n rfl rfl (j_aal rfl rfl hx12 (j_aload_n rfl rfl (j_gfr rfl hx13 (j_v1 [.ref x12, .ref x13] [] rfl rfl rfl rfl rfl rfl hw14 (Or.inl rfl) (t_La_allows (by omega) hσ15) (g)))))))))))))) ?_
    refine J_ite (fun h17 => ?_) (fun h17 => ?_)
    · exact J_some (fun h => j_if_t rfl (cc_eq_t h17) (j_iconst (0 : Int32) rfl k32_0 (j_iret rfl rfl h)))
    exact J_some (fun h => j_if_f rfl (cc_eq_f h17) (j_iconst (1 : Int32) rfl k32_1 (j_goto rfl (j_iret rfl rfl h))))
theorem t_Rs_lets {fo : Option Nat} {d : Nat} (hd : 4 ≤ d) {v0 : Nat} {v1 : Int32} {v2 : Int32} {v3 : Int32} {σ σ1 : q_H} {r : Int32} (h : f_Rs_lets v0 v1 v2 v3 σ = some (r, σ1)) : q_Rel (q_rf fo) q_Ms d 145 [.ref v0, .int v1, .int v2, .int v3] σ (.inl (some (.int r))) σ1 := by
  obtain ⟨d, rfl⟩ : ∃ d1, d = d1 + 1 := ⟨d - 1, by omega⟩
  exact q_Rel.of rfl rfl (b_Rs_lets hd _ _ _ _ σ _ _ h ⟨rfl, rfl⟩)

def f_Rs_countUnlet_L26 (v0 : Nat) (v1 : Option Nat) (v2 : Nat) (v4 : Int32) (v5 : Option Nat) : Nat → Int32 → Int32 → q_H → Option ((Int32) × q_H)
  | 0, _, _, _ => none
  | n + 1, v3, v6, σ => match v5 with | none => (some (v3, σ)) | some a6 => ((q_gi (q_gf σ 8 a6 0)).bind fun x7 => if v6 < x7 then ((q_gr (q_gf σ 8 a6 7)).bind fun x9 => (q_gi (q_ga σ 20 x9 v6)).bind fun x10 => if x10 = (-1 : Int32) then (f_Rs_countUnlet_L26 v0 v1 v2 v4 v5 n v3 (v6 + (1 : Int32)) σ) else ((q_ob σ 0 v0).bind fun w12 => q_sq (f_Rs_fillFacts v0 v4 a6 v6 σ) fun (_ : Unit) σ13 => match v1 with | none => ((q_gr (q_gf σ13 0 v0 9)).bind fun x16 => (q_ob σ13 6 v2).bind fun w17 => q_sq (f_La_allows v2 x16 σ13) fun x19 σ18 => if x19 = (0 : Int32) then (f_Rs_countUnlet_L26 v0 v1 v2 v4 v5 n (v3 + (1 : Int32)) (v6 + (1 : Int32)) σ18) else (f_Rs_countUnlet_L26 v0 v1 v2 v4 v5 n (v3 + (0 : Int32)) (v6 + (1 : Int32)) σ18)) | some a15 => ((q_gr (q_gf σ13 0 v0 9)).bind fun x21 => (q_ob σ13 6 a15).bind fun w22 => q_sq (f_La_allows a15 x21 σ13) fun x24 σ23 => if x24 = (0 : Int32) then (f_Rs_countUnlet_L26 v0 v1 v2 v4 v5 n (v3 + (0 : Int32)) (v6 + (1 : Int32)) σ23) else ((q_gr (q_gf σ23 0 v0 9)).bind fun x26 => (q_ob σ23 6 v2).bind fun w27 => q_sq (f_La_allows v2 x26 σ23) fun x29 σ28 => if x29 = (0 : Int32) then (f_Rs_countUnlet_L26 v0 v1 v2 v4 v5 n (v3 + (1 : Int32)) (v6 + (1 : Int32)) σ28) else (f_Rs_countUnlet_L26 v0 v1 v2 v4 v5 n (v3 + (0 : Int32)) (v6 + (1 : Int32)) σ28))))) else (some (v3, σ)))
set_option maxRecDepth 100000 in
theorem l_Rs_countUnlet_L26 {fo : Option Nat} {d : Nat} (hd : 4 ≤ d + 1) {o : q_O} {σ' : q_H} {E : (Int32) → q_H → Prop} (v0 : Nat) (v1 : Option Nat) (v2 : Nat) (v4 : Int32) (v5 : Option Nat) (hX : ∀ (t : Int32) σ1, E (t) σ1 → q_G (q_rf fo) d m_Rs_countUnlet o σ' 103 [some (.ref v0), some (q_rf v1), some (.ref v2), some (.int t), some (.int v4), none, none] [] σ1)  : ∀ (n : Nat) (v3 : Int32) (v6 : Int32) (σ : q_H), q_J E (f_Rs_countUnlet_L26 v0 v1 v2 v4 v5 n v3 v6 σ) (q_G (q_rf fo) d m_Rs_countUnlet o σ' 26 [some (.ref v0), some (q_rf v1), some (.ref v2), some (.int v3), some (.int v4), some (q_rf v5), some (.int v6)] [] σ)
  | 0, v3, v6, σ => J_none
  | n + 1, v3, v6, σ => by
    unfold f_Rs_countUnlet_L26
    refine q_J.step (fun g => j_aloadO (x := v5) rfl rfl (g)) ?_
    cases ha6 : v5 with
    | none =>
      try subst ha6
      exact J_some (fun h => j_nul_t rfl (j_weak (l := [some (.ref v0), some (q_rf v1), some (.ref v2), some (.int v3), some (.int v4), none, none]) (And.intro (Or.inr rfl) (And.intro (Or.inr rfl) (And.intro (Or.inr rfl) (And.intro (Or.inr rfl) (And.intro (Or.inr rfl) (And.intro (Or.inl rfl) (And.intro (Or.inl rfl) True.intro))))))) (hX _ _ h)))
    | some a6 =>
      try subst ha6
      refine J_bind fun x7 hx7 => ?_
      refine q_J.step (fun g => j_nul_f rfl (j_iload rfl rfl (j_aload rfl rfl (j_gfi rfl hx7 (g))))) ?_
      refine J_ite (fun h8 => ?_) (fun h8 => ?_)
      · refine J_bind fun x9 hx9 => ?_
        refine J_bind fun x10 hx10 => ?_
        refine q_J.step (fun g => j_icmp_f rfl (cc_ge_f h8) (j_aload rfl rfl (j_gfr rfl hx9 (j_iload rfl rfl (j_ial rfl hx10 (j_iconst (-1 : Int32) rfl k32_m1 (g))))))) ?_
        refine J_ite (fun h11 => ?_) (fun h11 => ?_)
        · exact q_J.step (fun g => j_icmp_t rfl (cc_eq_t h11) (j_iinc [some (.ref v0), some (q_rf v1), some (.ref v2), some (.int v3), some (.int v4), some (.ref a6), some (.int (v6 + (1 : Int32)))] (v6 + (1 : Int32)) rfl rfl (by rw [k32_1]) (Or.inr rfl) rfl (j_goto rfl (g)))) (l_Rs_countUnlet_L26 hd v0 v1 v2 v4 (some a6) hX n v3 (v6 + (1 : Int32)) σ)
        refine J_bind fun w12 hw12 => ?_
        refine J_cl fun _ σ13 hσ13 => ?_
        refine q_J.step (fun g => j_icmp_f rfl (cc_eq_f h11) (j_aload_n rfl rfl (j_iload rfl rfl (j_aload rfl rfl (j_iload rfl rfl (j_v0 [.ref v0, .int v4, .ref a6, .int v6] [] rfl rfl rfl rfl rfl rfl hw12 (Or.inl rfl) (t_Rs_fillFacts (by omega) hσ13) (j_iload_n rfl rfl (j_aload_nO (x := v1) rfl rfl (g))))))))) ?_
        cases ha15 : v1 with
        | none =>
          try subst ha15
          refine J_bind fun x16 hx16 => ?_
          refine J_bind fun w17 hw17 => ?_
          refine J_cl fun x19 σ18 hσ18 => ?_
          refine q_J.step (fun g => j_nul_t rfl (j_aload_n rfl rfl (j_aload_n rfl rfl (j_gfr rfl hx16 (j_v1 [.ref v2, .ref x16] [.int v3] rfl rfl rfl rfl rfl rfl hw17 (Or.inl rfl) (t_La_allows (by omega) hσ18) (g)))))) ?_
          refine J_ite (fun h20 => ?_) (fun h20 => ?_)
          · exact q_J.step (fun g => j_if_f rfl (cc_ne_f h20) (j_iconst (1 : Int32) rfl k32_1 (j_goto rfl (j_iadd rfl (j_istore_n [some (.ref v0), some (.null), some (.ref v2), some (.int (v3 + (1 : Int32))), some (.int v4), some (.ref a6), some (.int v6)] rfl rfl (Or.inr rfl) rfl (j_iinc [some (.ref v0), some (.null), some (.ref v2), some (.int (v3 + (1 : Int32))), some (.int v4), some (.ref a6), some (.int (v6 + (1 : Int32)))] (v6 + (1 : Int32)) rfl rfl (by rw [k32_1]) (Or.inr rfl) rfl (j_goto rfl (g)))))))) (l_Rs_countUnlet_L26 hd v0 none v2 v4 (some a6) hX n (v3 + (1 : Int32)) (v6 + (1 : Int32)) σ18)
          exact q_J.step (fun g => j_if_t rfl (cc_ne_t h20) (j_iconst (0 : Int32) rfl k32_0 (j_iadd rfl (j_istore_n [some (.ref v0), some (.null), some (.ref v2), some (.int (v3 + (0 : Int32))), some (.int v4), some (.ref a6), some (.int v6)] rfl rfl (Or.inr rfl) rfl (j_iinc [some (.ref v0), some (.null), some (.ref v2), some (.int (v3 + (0 : Int32))), some (.int v4), some (.ref a6), some (.int (v6 + (1 : Int32)))] (v6 + (1 : Int32)) rfl rfl (by rw [k32_1]) (Or.inr rfl) rfl (j_goto rfl (g))))))) (l_Rs_countUnlet_L26 hd v0 none v2 v4 (some a6) hX n (v3 + (0 : Int32)) (v6 + (1 : Int32)) σ18)
        | some a15 =>
          try subst ha15
          refine J_bind fun x21 hx21 => ?_
          refine J_bind fun w22 hw22 => ?_
          refine J_cl fun x24 σ23 hσ23 => ?_
          refine q_J.step (fun g => j_nul_f rfl (j_aload_n rfl rfl (j_aload_n rfl rfl (j_gfr rfl hx21 (j_v1 [.ref a15, .ref x21] [.int v3] rfl rfl rfl rfl rfl rfl hw22 (Or.inl rfl) (t_La_allows (by omega) hσ23) (g)))))) ?_
          refine J_ite (fun h25 => ?_) (fun h25 => ?_)
          · exact q_J.step (fun g => j_if_t rfl (cc_eq_t h25) (j_iconst (0 : Int32) rfl k32_0 (j_iadd rfl (j_istore_n [some (.ref v0), some (.ref a15), some (.ref v2), some (.int (v3 + (0 : Int32))), some (.int v4), some (.ref a6), some (.int v6)] rfl rfl (Or.inr rfl) rfl (j_iinc [some (.ref v0), some (.ref a15), some (.ref v2), some (.int (v3 + (0 : Int32))), some (.int v4), some (.ref a6), some (.int (v6 + (1 : Int32)))] (v6 + (1 : Int32)) rfl rfl (by rw [k32_1]) (Or.inr rfl) rfl (j_goto rfl (g))))))) (l_Rs_countUnlet_L26 hd v0 (some a15) v2 v4 (some a6) hX n (v3 + (0 : Int32)) (v6 + (1 : Int32)) σ23)
          refine J_bind fun x26 hx26 => ?_
          refine J_bind fun w27 hw27 => ?_
          refine J_cl fun x29 σ28 hσ28 => ?_
          refine q_J.step (fun g => j_if_f rfl (cc_eq_f h25) (j_aload_n rfl rfl (j_aload_n rfl rfl (j_gfr rfl hx26 (j_v1 [.ref v2, .ref x26] [.int v3] rfl rfl rfl rfl rfl rfl hw27 (Or.inl rfl) (t_La_allows (by omega) hσ28) (g)))))) ?_
          refine J_ite (fun h30 => ?_) (fun h30 => ?_)
          · exact q_J.step (fun g => j_if_f rfl (cc_ne_f h30) (j_iconst (1 : Int32) rfl k32_1 (j_goto rfl (j_iadd rfl (j_istore_n [some (.ref v0), some (.ref a15), some (.ref v2), some (.int (v3 + (1 : Int32))), some (.int v4), some (.ref a6), some (.int v6)] rfl rfl (Or.inr rfl) rfl (j_iinc [some (.ref v0), some (.ref a15), some (.ref v2), some (.int (v3 + (1 : Int32))), some (.int v4), some (.ref a6), some (.int (v6 + (1 : Int32)))] (v6 + (1 : Int32)) rfl rfl (by rw [k32_1]) (Or.inr rfl) rfl (j_goto rfl (g)))))))) (l_Rs_countUnlet_L26 hd v0 (some a15) v2 v4 (some a6) hX n (v3 + (1 : Int32)) (v6 + (1 : Int32)) σ28)
          exact q_J.step (fun g => j_if_t rfl (cc_ne_t h30) (j_iconst (0 : Int32) rfl k32_0 (j_iadd rfl (j_istore_n [some (.ref v0), some (.ref a15), some (.ref v2), some (.int (v3 + (0 : Int32))), some (.int v4), some (.ref a6), some (.int v6)] rfl rfl (Or.inr rfl) rfl (j_iinc [some (.ref v0), some (.ref a15), some (.ref v2), some (.int (v3 + (0 : Int32))), some (.int v4), some (.ref a6), some (.int (v6 + (1 : Int32)))] (v6 + (1 : Int32)) rfl rfl (by rw [k32_1]) (Or.inr rfl) rfl (j_goto rfl (g))))))) (l_Rs_countUnlet_L26 hd v0 (some a15) v2 v4 (some a6) hX n (v3 + (0 : Int32)) (v6 + (1 : Int32)) σ28)
      exact J_some (fun h => j_icmp_t rfl (cc_ge_t h8) (j_weak (l := [some (.ref v0), some (q_rf v1), some (.ref v2), some (.int v3), some (.int v4), none, none]) (And.intro (Or.inr rfl) (And.intro (Or.inr rfl) (And.intro (Or.inr rfl) (And.intro (Or.inr rfl) (And.intro (Or.inr rfl) (And.intro (Or.inl rfl) (And.intro (Or.inl rfl) True.intro))))))) (hX _ _ h)))

def f_Rs_countUnlet_L5 (v0 : Nat) (v1 : Option Nat) (v2 : Nat) : Nat → Int32 → Int32 → q_H → Option ((Int32) × q_H)
  | 0, _, _, _ => none
  | n + 1, v3, v4, σ => if v4 < (24 : Int32) then ((q_gr (q_gf σ 0 v0 3)).bind fun x2 => (q_ob σ 2 x2).bind fun w3 => q_sq (f_Sf_pageOf x2 v4 σ) fun x5 σ4 => q_sq (f_Rs_countUnlet_L26 v0 v1 v2 v4 x5 q_FU v3 (0 : Int32) σ4) fun (t31 : Int32) σ32 => f_Rs_countUnlet_L5 v0 v1 v2 n t31 (v4 + (1 : Int32)) σ32) else (some (v3, σ))
set_option maxRecDepth 100000 in
theorem l_Rs_countUnlet_L5 {fo : Option Nat} {d : Nat} (hd : 4 ≤ d + 1) {o : q_O} {σ' : q_H} {E : (Int32) → q_H → Prop} (v0 : Nat) (v1 : Option Nat) (v2 : Nat) (hX : ∀ (t : Int32) σ1, E (t) σ1 → q_G (q_rf fo) d m_Rs_countUnlet o σ' 109 [none, none, none, some (.int t), none, none, none] [] σ1)  : ∀ (n : Nat) (v3 : Int32) (v4 : Int32) (σ : q_H), q_J E (f_Rs_countUnlet_L5 v0 v1 v2 n v3 v4 σ) (q_G (q_rf fo) d m_Rs_countUnlet o σ' 5 [some (.ref v0), some (q_rf v1), some (.ref v2), some (.int v3), some (.int v4), none, none] [] σ)
  | 0, v3, v4, σ => J_none
  | n + 1, v3, v4, σ => by
    unfold f_Rs_countUnlet_L5
    refine q_J.step (fun g => j_iload rfl rfl (j_bipush (24 : Int32) rfl kb_24 (g))) ?_
    refine J_ite (fun h1 => ?_) (fun h1 => ?_)
    · refine J_bind fun x2 hx2 => ?_
      refine J_bind fun w3 hw3 => ?_
      refine J_cl fun x5 σ4 hσ4 => ?_
      refine J_sq (fun (t31 : Int32) (σ32 : q_H) => q_G (q_rf fo) d m_Rs_countUnlet o σ' 103 [some (.ref v0), some (q_rf v1), some (.ref v2), some (.int t31), some (.int v4), none, none] [] σ32) (q_J.step (fun g => j_icmp_f rfl (cc_ge_f h1) (j_aload_n rfl rfl (j_gfr rfl hx2 (j_iload rfl rfl (j_v1 [.ref x2, .int v4] [] rfl rfl rfl rfl rfl rfl hw3 (Or.inl rfl) (t_Sf_pageOf (by omega) hσ4) (j_astoreO (x := x5) [some (.ref v0), some (q_rf v1), some (.ref v2), some (.int v3), some (.int v4), some (q_rf x5), none] rfl rfl (Or.inr rfl) rfl (j_iconst (0 : Int32) rfl k32_0 (j_istore [some (.ref v0), some (q_rf v1), some (.ref v2), some (.int v3), some (.int v4), some (q_rf x5), some (.int (0 : Int32))] rfl rfl (Or.inr (q_rf_cat _)) rfl (g))))))))) (l_Rs_countUnlet_L26 hd v0 v1 v2 v4 x5 (fun _ _ h => h) q_FU v3 (0 : Int32) σ4)) (fun t31 σ32 => ?_)
      exact q_J.step (fun g => j_iinc [some (.ref v0), some (q_rf v1), some (.ref v2), some (.int t31), some (.int (v4 + (1 : Int32))), none, none] (v4 + (1 : Int32)) rfl rfl (by rw [k32_1]) (Or.inr rfl) rfl (j_goto rfl (g))) (l_Rs_countUnlet_L5 hd v0 v1 v2 hX n t31 (v4 + (1 : Int32)) σ32)
    exact J_some (fun h => j_icmp_t rfl (cc_ge_t h1) (j_weak (l := [none, none, none, some (.int v3), none, none, none]) (And.intro (Or.inl rfl) (And.intro (Or.inl rfl) (And.intro (Or.inl rfl) (And.intro (Or.inr rfl) (And.intro (Or.inl rfl) (And.intro (Or.inr rfl) (And.intro (Or.inr rfl) True.intro))))))) (hX _ _ h)))

def f_Rs_countUnlet (v0 : Nat) (v1 : Option Nat) (v2 : Nat) (σ : q_H) : Option ((Int32) × q_H) := q_sq (f_Rs_countUnlet_L5 v0 v1 v2 q_FU (0 : Int32) (0 : Int32) σ) fun (t33 : Int32) σ34 => some (t33, σ34)
set_option maxRecDepth 100000 in
theorem b_Rs_countUnlet {fo : Option Nat} {d : Nat} (hd : 4 ≤ d + 1) {o : q_O} {σ' : q_H} (v0 : Nat) (v1 : Option Nat) (v2 : Nat) (σ : q_H) : q_J (fun (r : Int32) (σ1 : q_H) => o = .inl (some (.int r)) ∧ σ' = σ1) (f_Rs_countUnlet v0 v1 v2 σ) (q_G (q_rf fo) d m_Rs_countUnlet o σ' 0 [some (.ref v0), some (q_rf v1), some (.ref v2), none, none, none, none] [] σ) := by
  unfold f_Rs_countUnlet
  refine J_sq (fun (t33 : Int32) (σ34 : q_H) => q_G (q_rf fo) d m_Rs_countUnlet o σ' 109 [none, none, none, some (.int t33), none, none, none] [] σ34) (q_J.step (fun g => j_iconst (0 : Int32) rfl k32_0 (j_istore_n [some (.ref v0), some (q_rf v1), some (.ref v2), some (.int (0 : Int32)), none, none, none] rfl rfl (Or.inr rfl) rfl (j_iconst (0 : Int32) rfl k32_0 (j_istore [some (.ref v0), some (q_rf v1), some (.ref v2), some (.int (0 : Int32)), some (.int (0 : Int32)), none, none] rfl rfl (Or.inr rfl) rfl (g))))) (l_Rs_countUnlet_L5 hd v0 v1 v2 (fun _ _ h => h) q_FU (0 : Int32) (0 : Int32) σ)) (fun t33 σ34 => ?_)
  exact J_some (fun h => j_iload_n rfl rfl (j_iret rfl rfl h))
theorem t_Rs_countUnlet {fo : Option Nat} {d : Nat} (hd : 4 ≤ d) {v0 : Nat} {v1 : Option Nat} {v2 : Nat} {σ σ1 : q_H} {r : Int32} (h : f_Rs_countUnlet v0 v1 v2 σ = some (r, σ1)) : q_Rel (q_rf fo) q_Ms d 148 [.ref v0, q_rf v1, .ref v2] σ (.inl (some (.int r))) σ1 := by
  obtain ⟨d, rfl⟩ : ∃ d1, d = d1 + 1 := ⟨d - 1, by omega⟩
  cases v1 <;> exact q_Rel.of rfl rfl (b_Rs_countUnlet hd _ _ _ σ _ _ h ⟨rfl, rfl⟩)

def f_Rs_world (v0 : Nat) (v1 : Int32) (v2 : Int32) (v3 : Int32) (v4 : Int32) (v5 : Int32) (v6 : Int32) (σ : q_H) : Option ((Int32) × q_H) := q_sq (f_Rs_isFrom (0 : Int32) v1 (9999 : Int32) σ) fun x2 σ1 => if x2 = (0 : Int32) then (some ((-1 : Int32), σ1)) else (q_sq (f_Rs_isWorld v2 v3 v4 v5 σ1) fun x5 σ4 => if x5 = (0 : Int32) then (some ((-1 : Int32), σ4)) else (q_sq (f_Rs_isFrom (0 : Int32) v6 (1 : Int32) σ4) fun x8 σ7 => if x8 = (0 : Int32) then (some ((-1 : Int32), σ7)) else ((q_gr (q_gf σ7 0 v0 10)).bind fun x10 => (q_gr (q_gf σ7 0 v0 7)).bind fun x11 => (q_ob σ7 5 x10).bind fun w12 => q_sq (f_Wo_make x10 v1 v2 x11 v3 v4 v5 σ7) fun (_ : Unit) σ13 => if v6 = (0 : Int32) then ((q_gr (q_gf σ13 0 v0 10)).bind fun x16 => (q_gi (q_gf σ13 5 x16 0)).bind fun x17 => some (x17, σ13)) else ((q_gr (q_gf σ13 0 v0 10)).bind fun x18 => (q_gi (q_gf σ13 5 x18 1)).bind fun x19 => some (x19, σ13)))))
set_option maxRecDepth 100000 in
theorem b_Rs_world {fo : Option Nat} {d : Nat} (hd : 4 ≤ d + 1) {o : q_O} {σ' : q_H} (v0 : Nat) (v1 : Int32) (v2 : Int32) (v3 : Int32) (v4 : Int32) (v5 : Int32) (v6 : Int32) (σ : q_H) : q_J (fun (r : Int32) (σ1 : q_H) => o = .inl (some (.int r)) ∧ σ' = σ1) (f_Rs_world v0 v1 v2 v3 v4 v5 v6 σ) (q_G (q_rf fo) d m_Rs_world o σ' 0 [some (.ref v0), some (.int v1), some (.int v2), some (.int v3), some (.int v4), some (.int v5), some (.int v6)] [] σ) := by
  unfold f_Rs_world
  refine J_cl fun x2 σ1 hσ1 => ?_
  refine q_J.step (fun g => j_iconst (0 : Int32) rfl k32_0 (j_iload_n rfl rfl (j_sipush (9999 : Int32) rfl ks_9999 (j_s1 [.int (0 : Int32), .int v1, .int (9999 : Int32)] [] rfl rfl rfl rfl rfl (t_Rs_isFrom (by omega) hσ1) (g))))) ?_
  refine J_ite (fun h3 => ?_) (fun h3 => ?_)
  · exact J_some (fun h => j_if_t rfl (cc_eq_t h3) (j_iconst (-1 : Int32) rfl k32_m1 (j_iret rfl rfl h)))
  refine J_cl fun x5 σ4 hσ4 => ?_
  refine q_J.step (fun g => j_if_f rfl (cc_eq_f h3) (j_iload_n rfl rfl (j_iload_n rfl rfl (j_iload rfl rfl (j_iload rfl rfl (j_s1 [.int v2, .int v3, .int v4, .int v5] [] rfl rfl rfl rfl rfl (t_Rs_isWorld (by omega) hσ4) (g))))))) ?_
  refine J_ite (fun h6 => ?_) (fun h6 => ?_)
  · exact J_some (fun h => j_if_t rfl (cc_eq_t h6) (j_iconst (-1 : Int32) rfl k32_m1 (j_iret rfl rfl h)))
  refine J_cl fun x8 σ7 hσ7 => ?_
  refine q_J.step (fun g => j_if_f rfl (cc_eq_f h6) (j_iconst (0 : Int32) rfl k32_0 (j_iload rfl rfl (j_iconst (1 : Int32) rfl k32_1 (j_s1 [.int (0 : Int32), .int v6, .int (1 : Int32)] [] rfl rfl rfl rfl rfl (t_Rs_isFrom (by omega) hσ7) (g)))))) ?_
  refine J_ite (fun h9 => ?_) (fun h9 => ?_)
  · exact J_some (fun h => j_if_f rfl (cc_ne_f h9) (j_iconst (-1 : Int32) rfl k32_m1 (j_iret rfl rfl h)))
  refine J_bind fun x10 hx10 => ?_
  refine J_bind fun x11 hx11 => ?_
  refine J_bind fun w12 hw12 => ?_
  refine J_cl fun _ σ13 hσ13 => ?_
  refine q_J.step (fun g => j_if_t rfl (cc_ne_t h9) (j_aload_n rfl rfl (j_gfr rfl hx10 (j_iload_n rfl rfl (j_iload_n rfl rfl (j_aload_n rfl rfl (j_gfr rfl hx11 (j_iload_n rfl rfl (j_iload rfl rfl (j_iload rfl rfl (j_v0 [.ref x10, .int v1, .int v2, .ref x11, .int v3, .int v4, .int v5] [] rfl rfl rfl rfl rfl rfl hw12 (Or.inl rfl) (t_Wo_make (by omega) hσ13) (j_iload rfl rfl (g))))))))))))) ?_
  refine J_ite (fun h15 => ?_) (fun h15 => ?_)
  · refine J_bind fun x16 hx16 => ?_
    refine J_bind fun x17 hx17 => ?_
    exact J_some (fun h => j_if_f rfl (cc_ne_f h15) (j_aload_n rfl rfl (j_gfr rfl hx16 (j_gfi rfl hx17 (j_goto rfl (j_iret rfl rfl h))))))
  refine J_bind fun x18 hx18 => ?_
  refine J_bind fun x19 hx19 => ?_
  exact J_some (fun h => j_if_t rfl (cc_ne_t h15) (j_aload_n rfl rfl (j_gfr rfl hx18 (j_gfi rfl hx19 (j_iret rfl rfl h)))))
theorem t_Rs_world {fo : Option Nat} {d : Nat} (hd : 4 ≤ d) {v0 : Nat} {v1 : Int32} {v2 : Int32} {v3 : Int32} {v4 : Int32} {v5 : Int32} {v6 : Int32} {σ σ1 : q_H} {r : Int32} (h : f_Rs_world v0 v1 v2 v3 v4 v5 v6 σ = some (r, σ1)) : q_Rel (q_rf fo) q_Ms d 151 [.ref v0, .int v1, .int v2, .int v3, .int v4, .int v5, .int v6] σ (.inl (some (.int r))) σ1 := by
  obtain ⟨d, rfl⟩ : ∃ d1, d = d1 + 1 := ⟨d - 1, by omega⟩
  exact q_Rel.of rfl rfl (b_Rs_world hd _ _ _ _ _ _ _ σ _ _ h ⟨rfl, rfl⟩)

def f_Ta_codesOf_L4 (v0 : Nat) : Nat → Int32 → Int32 → q_H → Option ((Int32) × q_H)
  | 0, _, _, _ => none
  | n + 1, v1, v2, σ => (q_ob σ 13 v0).bind fun w1 => q_sq (f_St_length v0 σ) fun x3 σ2 => if v2 < x3 then ((q_ob σ2 13 v0).bind fun w5 => q_sq (f_St_charAt v0 v2 σ2) fun x7 σ6 => if x7 = (32 : Int32) then (f_Ta_codesOf_L4 v0 n (v1 + (1 : Int32)) (v2 + (1 : Int32)) σ6) else (f_Ta_codesOf_L4 v0 n (v1 + (0 : Int32)) (v2 + (1 : Int32)) σ6)) else (some (v1, σ2))
set_option maxRecDepth 100000 in
theorem l_Ta_codesOf_L4 {fo : Option Nat} {d : Nat} (hd : 5 ≤ d + 1) {o : q_O} {σ' : q_H} {E : (Int32) → q_H → Prop} (v0 : Nat) (hX : ∀ (t : Int32) σ1, E (t) σ1 → q_G (q_rf fo) d m_Ta_codesOf o σ' 36 [some (.ref v0), some (.int t), none, none, none] [] σ1)  : ∀ (n : Nat) (v1 : Int32) (v2 : Int32) (σ : q_H), q_J E (f_Ta_codesOf_L4 v0 n v1 v2 σ) (q_G (q_rf fo) d m_Ta_codesOf o σ' 4 [some (.ref v0), some (.int v1), some (.int v2), none, none] [] σ)
  | 0, v1, v2, σ => J_none
  | n + 1, v1, v2, σ => by
    unfold f_Ta_codesOf_L4
    refine J_bind fun w1 hw1 => ?_
    refine J_cl fun x3 σ2 hσ2 => ?_
    refine q_J.step (fun g => j_iload_n rfl rfl (j_aload_n rfl rfl (j_v1 [.ref v0] [.int v2] rfl rfl rfl rfl rfl rfl hw1 (Or.inr ⟨rfl, rfl⟩) (t_St_length (by omega) hσ2) (g)))) ?_
    refine J_ite (fun h4 => ?_) (fun h4 => ?_)
    · refine J_bind fun w5 hw5 => ?_
      refine J_cl fun x7 σ6 hσ6 => ?_
      refine q_J.step (fun g => j_icmp_f rfl (cc_ge_f h4) (j_iload_n rfl rfl (j_aload_n rfl rfl (j_iload_n rfl rfl (j_v1 [.ref v0, .int v2] [.int v1] rfl rfl rfl rfl rfl rfl hw5 (Or.inr ⟨rfl, rfl⟩) (t_St_charAt (by omega) hσ6) (j_bipush (32 : Int32) rfl kb_32 (g))))))) ?_
      refine J_ite (fun h8 => ?_) (fun h8 => ?_)
      · exact q_J.step (fun g => j_icmp_f rfl (cc_ne_f h8) (j_iconst (1 : Int32) rfl k32_1 (j_goto rfl (j_iadd rfl (j_istore_n [some (.ref v0), some (.int (v1 + (1 : Int32))), some (.int v2), none, none] rfl rfl (Or.inr rfl) rfl (j_iinc [some (.ref v0), some (.int (v1 + (1 : Int32))), some (.int (v2 + (1 : Int32))), none, none] (v2 + (1 : Int32)) rfl rfl (by rw [k32_1]) (Or.inr rfl) rfl (j_goto rfl (g)))))))) (l_Ta_codesOf_L4 hd v0 hX n (v1 + (1 : Int32)) (v2 + (1 : Int32)) σ6)
      exact q_J.step (fun g => j_icmp_t rfl (cc_ne_t h8) (j_iconst (0 : Int32) rfl k32_0 (j_iadd rfl (j_istore_n [some (.ref v0), some (.int (v1 + (0 : Int32))), some (.int v2), none, none] rfl rfl (Or.inr rfl) rfl (j_iinc [some (.ref v0), some (.int (v1 + (0 : Int32))), some (.int (v2 + (1 : Int32))), none, none] (v2 + (1 : Int32)) rfl rfl (by rw [k32_1]) (Or.inr rfl) rfl (j_goto rfl (g))))))) (l_Ta_codesOf_L4 hd v0 hX n (v1 + (0 : Int32)) (v2 + (1 : Int32)) σ6)
    exact J_some (fun h => j_icmp_t rfl (cc_ge_t h4) (j_weak (l := [some (.ref v0), some (.int v1), none, none, none]) (And.intro (Or.inr rfl) (And.intro (Or.inr rfl) (And.intro (Or.inl rfl) (And.intro (Or.inr rfl) (And.intro (Or.inr rfl) True.intro))))) (hX _ _ h)))

def f_Ta_codesOf_L45 (v0 : Nat) (v1 : Int32) (v2 : Nat) : Nat → Int32 → Int32 → q_H → Option ((Unit) × q_H)
  | 0, _, _, _ => none
  | n + 1, v3, v4, σ => (q_ob σ 13 v0).bind fun w14 => q_sq (f_St_length v0 σ) fun x16 σ15 => if v4 < x16 then (if v3 < v1 then ((q_ob σ15 13 v0).bind fun w19 => q_sq (f_St_charAt v0 v4 σ15) fun x21 σ20 => if x21 = (32 : Int32) then (f_Ta_codesOf_L45 v0 v1 v2 n (v3 + (1 : Int32)) (v4 + (1 : Int32)) σ20) else ((q_gl' (q_ga σ20 21 v2 v3)).bind fun x23 => (q_ob σ20 13 v0).bind fun w24 => q_sq (f_St_charAt v0 v4 σ20) fun x26 σ25 => q_sq (f_Ta_longer x23 x26 σ25) fun x28 σ27 => (q_sa σ27 21 v2 v3 (.long x28)).bind fun σ29 => f_Ta_codesOf_L45 v0 v1 v2 n v3 (v4 + (1 : Int32)) σ29)) else (some ((), σ15))) else (some ((), σ15))
set_option maxRecDepth 100000 in
theorem l_Ta_codesOf_L45 {fo : Option Nat} {d : Nat} (hd : 5 ≤ d + 1) {o : q_O} {σ' : q_H} {E : (Unit) → q_H → Prop} (v0 : Nat) (v1 : Int32) (v2 : Nat) (hX : ∀ (t : Unit) σ1, E (t) σ1 → q_G (q_rf fo) d m_Ta_codesOf o σ' 97 [none, none, some (.ref v2), none, none] [] σ1)  : ∀ (n : Nat) (v3 : Int32) (v4 : Int32) (σ : q_H), q_J E (f_Ta_codesOf_L45 v0 v1 v2 n v3 v4 σ) (q_G (q_rf fo) d m_Ta_codesOf o σ' 45 [some (.ref v0), some (.int v1), some (.ref v2), some (.int v3), some (.int v4)] [] σ)
  | 0, v3, v4, σ => J_none
  | n + 1, v3, v4, σ => by
    unfold f_Ta_codesOf_L45
    refine J_bind fun w14 hw14 => ?_
    refine J_cl fun x16 σ15 hσ15 => ?_
    refine q_J.step (fun g => j_iload rfl rfl (j_aload_n rfl rfl (j_v1 [.ref v0] [.int v4] rfl rfl rfl rfl rfl rfl hw14 (Or.inr ⟨rfl, rfl⟩) (t_St_length (by omega) hσ15) (g)))) ?_
    refine J_ite (fun h17 => ?_) (fun h17 => ?_)
    · refine q_J.step (fun g => j_icmp_f rfl (cc_ge_f h17) (j_iload_n rfl rfl (j_iload_n rfl rfl (g)))) ?_
      refine J_ite (fun h18 => ?_) (fun h18 => ?_)
      · refine J_bind fun w19 hw19 => ?_
        refine J_cl fun x21 σ20 hσ20 => ?_
        refine q_J.step (fun g => j_icmp_f rfl (cc_ge_f h18) (j_aload_n rfl rfl (j_iload rfl rfl (j_v1 [.ref v0, .int v4] [] rfl rfl rfl rfl rfl rfl hw19 (Or.inr ⟨rfl, rfl⟩) (t_St_charAt (by omega) hσ20) (j_bipush (32 : Int32) rfl kb_32 (g)))))) ?_
        refine J_ite (fun h22 => ?_) (fun h22 => ?_)
        · exact q_J.step (fun g => j_icmp_f rfl (cc_ne_f h22) (j_iinc [some (.ref v0), some (.int v1), some (.ref v2), some (.int (v3 + (1 : Int32))), some (.int v4)] (v3 + (1 : Int32)) rfl rfl (by rw [k32_1]) (Or.inr rfl) rfl (j_goto rfl (j_iinc [some (.ref v0), some (.int v1), some (.ref v2), some (.int (v3 + (1 : Int32))), some (.int (v4 + (1 : Int32)))] (v4 + (1 : Int32)) rfl rfl (by rw [k32_1]) (Or.inr rfl) rfl (j_goto rfl (g)))))) (l_Ta_codesOf_L45 hd v0 v1 v2 hX n (v3 + (1 : Int32)) (v4 + (1 : Int32)) σ20)
        refine J_bind fun x23 hx23 => ?_
        refine J_bind fun w24 hw24 => ?_
        refine J_cl fun x26 σ25 hσ25 => ?_
        refine J_cl fun x28 σ27 hσ27 => ?_
        refine J_bind fun σ29 hσ29 => ?_
        exact q_J.step (fun g => j_icmp_t rfl (cc_ne_t h22) (j_aload_n rfl rfl (j_iload_n rfl rfl (j_aload_n rfl rfl (j_iload_n rfl rfl (j_lal rfl hx23 (j_aload_n rfl rfl (j_iload rfl rfl (j_v1 [.ref v0, .int v4] [.long x23, .int v3, .ref v2] rfl rfl rfl rfl rfl rfl hw24 (Or.inr ⟨rfl, rfl⟩) (t_St_charAt (by omega) hσ25) (j_s1 [.long x23, .int x26] [.int v3, .ref v2] rfl rfl rfl rfl rfl (t_Ta_longer (by omega) hσ27) (j_las rfl hσ29 (j_iinc [some (.ref v0), some (.int v1), some (.ref v2), some (.int v3), some (.int (v4 + (1 : Int32)))] (v4 + (1 : Int32)) rfl rfl (by rw [k32_1]) (Or.inr rfl) rfl (j_goto rfl (g)))))))))))))) (l_Ta_codesOf_L45 hd v0 v1 v2 hX n v3 (v4 + (1 : Int32)) σ29)
      exact J_some (fun h => j_icmp_t rfl (cc_ge_t h18) (j_weak (l := [none, none, some (.ref v2), none, none]) (And.intro (Or.inl rfl) (And.intro (Or.inl rfl) (And.intro (Or.inr rfl) (And.intro (Or.inl rfl) (And.intro (Or.inl rfl) True.intro))))) (hX _ _ h)))
    exact J_some (fun h => j_icmp_t rfl (cc_ge_t h17) (j_weak (l := [none, none, some (.ref v2), none, none]) (And.intro (Or.inl rfl) (And.intro (Or.inl rfl) (And.intro (Or.inr rfl) (And.intro (Or.inl rfl) (And.intro (Or.inl rfl) True.intro))))) (hX _ _ h)))

def f_Ta_codesOf (v0 : Nat) (σ : q_H) : Option ((Nat) × q_H) := q_sq (f_Ta_codesOf_L4 v0 q_FU (1 : Int32) (0 : Int32) σ) fun (t9 : Int32) σ10 => if ¬ (¬ t9 < 0 ∧ t9.toNatClampNeg ≤ 100000) then none else q_ma σ10 21 (List.replicate t9.toNatClampNeg (.long 0)) fun σ11 a12 => q_sq (f_Ta_codesOf_L45 v0 t9 a12 q_FU (0 : Int32) (0 : Int32) σ11) fun (t30 : Unit) σ31 => some (a12, σ31)
set_option maxRecDepth 100000 in
theorem b_Ta_codesOf {fo : Option Nat} {d : Nat} (hd : 5 ≤ d + 1) {o : q_O} {σ' : q_H} (v0 : Nat) (σ : q_H) : q_J (fun (r : Nat) (σ1 : q_H) => o = .inl (some (.ref r)) ∧ σ' = σ1) (f_Ta_codesOf v0 σ) (q_G (q_rf fo) d m_Ta_codesOf o σ' 0 [some (.ref v0), none, none, none, none] [] σ) := by
  unfold f_Ta_codesOf
  refine J_sq (fun (t9 : Int32) (σ10 : q_H) => q_G (q_rf fo) d m_Ta_codesOf o σ' 36 [some (.ref v0), some (.int t9), none, none, none] [] σ10) (q_J.step (fun g => j_iconst (1 : Int32) rfl k32_1 (j_istore_n [some (.ref v0), some (.int (1 : Int32)), none, none, none] rfl rfl (Or.inr rfl) rfl (j_iconst (0 : Int32) rfl k32_0 (j_istore_n [some (.ref v0), some (.int (1 : Int32)), some (.int (0 : Int32)), none, none] rfl rfl (Or.inr rfl) rfl (g))))) (l_Ta_codesOf_L4 hd v0 (fun _ _ h => h) q_FU (1 : Int32) (0 : Int32) σ)) (fun t9 σ10 => ?_)
  refine q_J.step (fun g => j_iload_n rfl rfl (g)) ?_
  refine J_ite (fun _ => J_none) (fun h13 => ?_)
  refine J_ma fun σ11 a12 hσ11 ha12 => ?_
  refine J_sq (fun (t30 : Unit) (σ31 : q_H) => q_G (q_rf fo) d m_Ta_codesOf o σ' 97 [none, none, some (.ref a12), none, none] [] σ31) (q_J.step (fun g => j_newk t9.toNatClampNeg (.long 0) rfl rfl rfl (Decidable.not_not.mp h13) rfl hσ11 ha12 (j_astore_n [some (.ref v0), some (.int t9), some (.ref a12), none, none] rfl rfl (Or.inr rfl) rfl (j_iconst (0 : Int32) rfl k32_0 (j_istore_n [some (.ref v0), some (.int t9), some (.ref a12), some (.int (0 : Int32)), none] rfl rfl (Or.inr rfl) rfl (j_iconst (0 : Int32) rfl k32_0 (j_istore [some (.ref v0), some (.int t9), some (.ref a12), some (.int (0 : Int32)), some (.int (0 : Int32))] rfl rfl (Or.inr rfl) rfl (g))))))) (l_Ta_codesOf_L45 hd v0 t9 a12 (fun _ _ h => h) q_FU (0 : Int32) (0 : Int32) σ11)) (fun t30 σ31 => ?_)
  exact J_some (fun h => j_aload_n rfl rfl (j_aret (x := some a12) rfl (Or.inr ⟨_, rfl⟩) h))
theorem t_Ta_codesOf {fo : Option Nat} {d : Nat} (hd : 5 ≤ d) {v0 : Nat} {σ σ1 : q_H} {r : Nat} (h : f_Ta_codesOf v0 σ = some (r, σ1)) : q_Rel (q_rf fo) q_Ms d 13 [.ref v0] σ (.inl (some (.ref r))) σ1 := by
  obtain ⟨d, rfl⟩ : ∃ d1, d = d1 + 1 := ⟨d - 1, by omega⟩
  exact q_Rel.of rfl rfl (b_Ta_codesOf hd _ σ _ _ h ⟨rfl, rfl⟩)

def f_Ta_advance_L0 (v0 : Nat) : Nat → q_H → Option ((Unit) × q_H)
  | 0, _ => none
  | n + 1, σ => (q_gi (q_gf σ 1 v0 2)).bind fun x1 => (q_gi (q_gf σ 1 v0 1)).bind fun x2 => if x1 < x2 then ((q_gr (q_gf σ 1 v0 0)).bind fun x4 => (q_gi (q_gf σ 1 v0 2)).bind fun x5 => (q_gi (q_ga σ 23 x4 x5)).bind fun x6 => if x6 = (10 : Int32) then ((q_gi (q_gf σ 1 v0 2)).bind fun x8 => (q_sf σ 1 v0 2 (.int (x8 + (1 : Int32)))).bind fun σ9 => f_Ta_advance_L0 v0 n σ9) else ((q_gr (q_gf σ 1 v0 0)).bind fun x10 => (q_gi (q_gf σ 1 v0 2)).bind fun x11 => (q_gi (q_ga σ 23 x10 x11)).bind fun x12 => if x12 = (32 : Int32) then ((q_gi (q_gf σ 1 v0 2)).bind fun x14 => (q_sf σ 1 v0 2 (.int (x14 + (1 : Int32)))).bind fun σ15 => f_Ta_advance_L0 v0 n σ15) else (some ((), σ)))) else (some ((), σ))
set_option maxRecDepth 100000 in
theorem l_Ta_advance_L0 {fo : Option Nat} {d : Nat} (hd : 5 ≤ d + 1) {o : q_O} {σ' : q_H} {E : (Unit) → q_H → Prop} (v0 : Nat) (hX : ∀ (t : Unit) σ1, E (t) σ1 → q_G (q_rf fo) d m_Ta_advance o σ' 52 [some (.ref v0)] [] σ1)  : ∀ (n : Nat) (σ : q_H), q_J E (f_Ta_advance_L0 v0 n σ) (q_G (q_rf fo) d m_Ta_advance o σ' 0 [some (.ref v0)] [] σ)
  | 0, σ => J_none
  | n + 1, σ => by
    unfold f_Ta_advance_L0
    refine J_bind fun x1 hx1 => ?_
    refine J_bind fun x2 hx2 => ?_
    refine q_J.step (fun g => j_aload_n rfl rfl (j_gfi rfl hx1 (j_aload_n rfl rfl (j_gfi rfl hx2 (g))))) ?_
    refine J_ite (fun h3 => ?_) (fun h3 => ?_)
    · refine J_bind fun x4 hx4 => ?_
      refine J_bind fun x5 hx5 => ?_
      refine J_bind fun x6 hx6 => ?_
      refine q_J.step (fun g => j_icmp_f rfl (cc_ge_f h3) (j_aload_n rfl rfl (j_gfr rfl hx4 (j_aload_n rfl rfl (j_gfi rfl hx5 (j_cal rfl hx6 (j_bipush (10 : Int32) rfl kb_10 (g)))))))) ?_
      refine J_ite (fun h7 => ?_) (fun h7 => ?_)
      · refine J_bind fun x8 hx8 => ?_
        refine J_bind fun σ9 hσ9 => ?_
        exact q_J.step (fun g => j_icmp_t rfl (cc_eq_t h7) (j_aload_n rfl rfl (j_dup rfl rfl (j_gfi rfl hx8 (j_iconst (1 : Int32) rfl k32_1 (j_iadd rfl (j_putf rfl rfl rfl rfl hσ9 (j_goto rfl (g))))))))) (l_Ta_advance_L0 hd v0 hX n σ9)
      refine J_bind fun x10 hx10 => ?_
      refine J_bind fun x11 hx11 => ?_
      refine J_bind fun x12 hx12 => ?_
      refine q_J.step (fun g => j_icmp_f rfl (cc_eq_f h7) (j_aload_n rfl rfl (j_gfr rfl hx10 (j_aload_n rfl rfl (j_gfi rfl hx11 (j_cal rfl hx12 (j_bipush (32 : Int32) rfl kb_32 (g)))))))) ?_
      refine J_ite (fun h13 => ?_) (fun h13 => ?_)
      · refine J_bind fun x14 hx14 => ?_
        refine J_bind fun σ15 hσ15 => ?_
        exact q_J.step (fun g => j_icmp_f rfl (cc_ne_f h13) (j_aload_n rfl rfl (j_dup rfl rfl (j_gfi rfl hx14 (j_iconst (1 : Int32) rfl k32_1 (j_iadd rfl (j_putf rfl rfl rfl rfl hσ15 (j_goto rfl (g))))))))) (l_Ta_advance_L0 hd v0 hX n σ15)
      exact J_some (fun h => j_icmp_t rfl (cc_ne_t h13) (hX _ _ h))
    exact J_some (fun h => j_icmp_t rfl (cc_ge_t h3) (hX _ _ h))

def f_Ta_advance (v0 : Nat) (σ : q_H) : Option ((Unit) × q_H) := q_sq (f_Ta_advance_L0 v0 q_FU σ) fun (t16 : Unit) σ17 => (q_gi (q_gf σ17 1 v0 2)).bind fun x18 => (q_sf σ17 1 v0 4 (.int x18)).bind fun σ19 => (q_sf σ19 1 v0 5 (.long (0 : Int64))).bind fun σ20 => (q_gi (q_gf σ20 1 v0 2)).bind fun x21 => (q_gi (q_gf σ20 1 v0 1)).bind fun x22 => if x21 < x22 then ((q_gr (q_gf σ20 1 v0 0)).bind fun x24 => (q_gi (q_gf σ20 1 v0 2)).bind fun x25 => (q_gi (q_ga σ20 23 x24 x25)).bind fun x26 => q_sq (f_Rs_isFrom (97 : Int32) x26 (122 : Int32) σ20) fun x28 σ27 => if x28 = (0 : Int32) then ((q_gr (q_gf σ27 1 v0 0)).bind fun x30 => (q_gi (q_gf σ27 1 v0 2)).bind fun x31 => (q_gi (q_ga σ27 23 x30 x31)).bind fun x32 => q_sq (f_Rs_isFrom (48 : Int32) x32 (57 : Int32) σ27) fun x34 σ33 => if x34 = (0 : Int32) then ((q_gr (q_gf σ33 1 v0 0)).bind fun x36 => (q_gi (q_gf σ33 1 v0 2)).bind fun x37 => (q_gi (q_ga σ33 23 x36 x37)).bind fun x38 => (q_sf σ33 1 v0 5 (.long x38.toInt64)).bind fun σ39 => (q_gr (q_gf σ39 1 v0 0)).bind fun x40 => (q_gi (q_gf σ39 1 v0 2)).bind fun x41 => (q_gi (q_ga σ39 23 x40 x41)).bind fun x42 => (q_ob σ39 13 4).bind fun w43 => q_sq (f_St_indexOf1 4 x42 σ39) fun x45 σ44 => if x45 < (0 : Int32) then ((q_sf σ44 1 v0 3 (.int (4 : Int32))).bind fun σ47 => (q_gi (q_gf σ47 1 v0 2)).bind fun x48 => (q_sf σ47 1 v0 2 (.int (x48 + (1 : Int32)))).bind fun σ49 => some ((), σ49)) else ((q_sf σ44 1 v0 3 (.int (3 : Int32))).bind fun σ50 => (q_gi (q_gf σ50 1 v0 2)).bind fun x51 => (q_sf σ50 1 v0 2 (.int (x51 + (1 : Int32)))).bind fun σ52 => some ((), σ52))) else ((q_ob σ33 1 v0).bind fun w53 => q_sq (f_Ta_takeNumber v0 σ33) fun (_ : Unit) σ54 => some ((), σ54))) else ((q_ob σ27 1 v0).bind fun w56 => q_sq (f_Ta_takeWord v0 σ27) fun (_ : Unit) σ57 => some ((), σ57))) else ((q_sf σ20 1 v0 3 (.int (0 : Int32))).bind fun σ59 => some ((), σ59))
set_option maxRecDepth 100000 in
theorem b_Ta_advance {fo : Option Nat} {d : Nat} (hd : 5 ≤ d + 1) {o : q_O} {σ' : q_H} (v0 : Nat) (σ : q_H) : q_J (fun (r : Unit) (σ1 : q_H) => o = .inl none ∧ σ' = σ1) (f_Ta_advance v0 σ) (q_G (q_rf fo) d m_Ta_advance o σ' 0 [some (.ref v0)] [] σ) := by
  unfold f_Ta_advance
  refine J_sq (fun (t16 : Unit) (σ17 : q_H) => q_G (q_rf fo) d m_Ta_advance o σ' 52 [some (.ref v0)] [] σ17) (l_Ta_advance_L0 hd v0 (fun _ _ h => h) q_FU σ) (fun t16 σ17 => ?_)
  refine J_bind fun x18 hx18 => ?_
  refine J_bind fun σ19 hσ19 => ?_
  refine J_bind fun σ20 hσ20 => ?_
  refine J_bind fun x21 hx21 => ?_
  refine J_bind fun x22 hx22 => ?_
  refine q_J.step (fun g => j_aload_n rfl rfl (j_aload_n rfl rfl (j_gfi rfl hx18 (j_putf rfl rfl rfl rfl hσ19 (j_aload_n rfl rfl (j_lconst (0 : Int64) rfl kl_0 (j_putf rfl rfl rfl rfl hσ20 (j_aload_n rfl rfl (j_gfi rfl hx21 (j_aload_n rfl rfl (j_gfi rfl hx22 (g)))))))))))) ?_
  refine J_ite (fun h23 => ?_) (fun h23 => ?_)
  · refine J_bind fun x24 hx24 => ?_
    refine J_bind fun x25 hx25 => ?_
    refine J_bind fun x26 hx26 => ?_
    refine J_cl fun x28 σ27 hσ27 => ?_
    refine q_J.step (fun g => j_icmp_t rfl (cc_lt_t h23) (j_bipush (97 : Int32) rfl kb_97 (j_aload_n rfl rfl (j_gfr rfl hx24 (j_aload_n rfl rfl (j_gfi rfl hx25 (j_cal rfl hx26 (j_bipush (122 : Int32) rfl kb_122 (j_s1 [.int (97 : Int32), .int x26, .int (122 : Int32)] [] rfl rfl rfl rfl rfl (t_Rs_isFrom (by omega) hσ27) (g)))))))))) ?_
    refine J_ite (fun h29 => ?_) (fun h29 => ?_)
    · refine J_bind fun x30 hx30 => ?_
      refine J_bind fun x31 hx31 => ?_
      refine J_bind fun x32 hx32 => ?_
      refine J_cl fun x34 σ33 hσ33 => ?_
      refine q_J.step (fun g => j_if_t rfl (cc_eq_t h29) (j_bipush (48 : Int32) rfl kb_48 (j_aload_n rfl rfl (j_gfr rfl hx30 (j_aload_n rfl rfl (j_gfi rfl hx31 (j_cal rfl hx32 (j_bipush (57 : Int32) rfl kb_57 (j_s1 [.int (48 : Int32), .int x32, .int (57 : Int32)] [] rfl rfl rfl rfl rfl (t_Rs_isFrom (by omega) hσ33) (g)))))))))) ?_
      refine J_ite (fun h35 => ?_) (fun h35 => ?_)
      · refine J_bind fun x36 hx36 => ?_
        refine J_bind fun x37 hx37 => ?_
        refine J_bind fun x38 hx38 => ?_
        refine J_bind fun σ39 hσ39 => ?_
        refine J_bind fun x40 hx40 => ?_
        refine J_bind fun x41 hx41 => ?_
        refine J_bind fun x42 hx42 => ?_
        refine J_bind fun w43 hw43 => ?_
        refine J_cl fun x45 σ44 hσ44 => ?_
        refine q_J.step (fun g => j_if_t rfl (cc_eq_t h35) (j_aload_n rfl rfl (j_aload_n rfl rfl (j_gfr rfl hx36 (j_aload_n rfl rfl (j_gfi rfl hx37 (j_cal rfl hx38 (j_i2l rfl (j_putf rfl rfl rfl rfl hσ39 (j_aload_n rfl rfl (j_ldc rfl (j_aload_n rfl rfl (j_gfr rfl hx40 (j_aload_n rfl rfl (g))))))))))))))) ?_
        refine q_J.step (fun g => j_gfi rfl hx41 (j_cal rfl hx42 (j_v1 [.ref 4, .int x42] [.ref v0] rfl rfl rfl rfl rfl rfl hw43 (Or.inr ⟨rfl, rfl⟩) (t_St_indexOf1 (by omega) hσ44) (g)))) ?_
        refine J_ite (fun h46 => ?_) (fun h46 => ?_)
        · refine J_bind fun σ47 hσ47 => ?_
          refine J_bind fun x48 hx48 => ?_
          refine J_bind fun σ49 hσ49 => ?_
          exact J_some (fun h => j_if_t rfl (cc_lt_t h46) (j_iconst (4 : Int32) rfl k32_4 (j_putf rfl rfl rfl rfl hσ47 (j_aload_n rfl rfl (j_dup rfl rfl (j_gfi rfl hx48 (j_iconst (1 : Int32) rfl k32_1 (j_iadd rfl (j_putf rfl rfl rfl rfl hσ49 (j_vret rfl rfl h))))))))))
        refine J_bind fun σ50 hσ50 => ?_
        refine J_bind fun x51 hx51 => ?_
        refine J_bind fun σ52 hσ52 => ?_
        exact J_some (fun h => j_if_f rfl (cc_lt_f h46) (j_iconst (3 : Int32) rfl k32_3 (j_goto rfl (j_putf rfl rfl rfl rfl hσ50 (j_aload_n rfl rfl (j_dup rfl rfl (j_gfi rfl hx51 (j_iconst (1 : Int32) rfl k32_1 (j_iadd rfl (j_putf rfl rfl rfl rfl hσ52 (j_vret rfl rfl h)))))))))))
      refine J_bind fun w53 hw53 => ?_
      refine J_cl fun _ σ54 hσ54 => ?_
      exact J_some (fun h => j_if_f rfl (cc_eq_f h35) (j_aload_n rfl rfl (j_v0 [.ref v0] [] rfl rfl rfl rfl rfl rfl hw53 (Or.inl rfl) (t_Ta_takeNumber (by omega) hσ54) (j_goto rfl (j_vret rfl rfl h)))))
    refine J_bind fun w56 hw56 => ?_
    refine J_cl fun _ σ57 hσ57 => ?_
    exact J_some (fun h => j_if_f rfl (cc_eq_f h29) (j_aload_n rfl rfl (j_v0 [.ref v0] [] rfl rfl rfl rfl rfl rfl hw56 (Or.inl rfl) (t_Ta_takeWord (by omega) hσ57) (j_goto rfl (j_vret rfl rfl h)))))
  refine J_bind fun σ59 hσ59 => ?_
  exact J_some (fun h => j_icmp_f rfl (cc_lt_f h23) (j_aload_n rfl rfl (j_iconst (0 : Int32) rfl k32_0 (j_putf rfl rfl rfl rfl hσ59 (j_goto rfl (j_vret rfl rfl h))))))
theorem t_Ta_advance {fo : Option Nat} {d : Nat} (hd : 5 ≤ d) {v0 : Nat} {σ σ1 : q_H} {r : Unit} (h : f_Ta_advance v0 σ = some (r, σ1)) : q_Rel (q_rf fo) q_Ms d 17 [.ref v0] σ (.inl none) σ1 := by
  obtain ⟨d, rfl⟩ : ∃ d1, d = d1 + 1 := ⟨d - 1, by omega⟩
  exact q_Rel.of rfl rfl (b_Ta_advance hd _ σ _ _ h ⟨rfl, rfl⟩)

def f_Ho_refresh_L15 (v0 : Nat) (v1 : Nat) : Nat → Int32 → q_H → Option ((Unit) × q_H)
  | 0, _, _ => none
  | n + 1, v2, σ => if v2 < (24 : Int32) then ((q_ob σ 3 v0).bind fun w5 => q_sq (f_Ho_begin v0 v1 v2 σ) fun (_ : Unit) σ6 => f_Ho_refresh_L15 v0 v1 n (v2 + (1 : Int32)) σ6) else (some ((), σ))
set_option maxRecDepth 100000 in
theorem l_Ho_refresh_L15 {fo : Option Nat} {d : Nat} (hd : 5 ≤ d + 1) {o : q_O} {σ' : q_H} {E : (Unit) → q_H → Prop} (v0 : Nat) (v1 : Nat) (hX : ∀ (t : Unit) σ1, E (t) σ1 → q_G (q_rf fo) d m_Ho_refresh o σ' 33 [some (.ref v0), some (.ref v1), none, none] [] σ1)  : ∀ (n : Nat) (v2 : Int32) (σ : q_H), q_J E (f_Ho_refresh_L15 v0 v1 n v2 σ) (q_G (q_rf fo) d m_Ho_refresh o σ' 15 [some (.ref v0), some (.ref v1), some (.int v2), none] [] σ)
  | 0, v2, σ => J_none
  | n + 1, v2, σ => by
    unfold f_Ho_refresh_L15
    refine q_J.step (fun g => j_iload_n rfl rfl (j_bipush (24 : Int32) rfl kb_24 (g))) ?_
    refine J_ite (fun h4 => ?_) (fun h4 => ?_)
    · refine J_bind fun w5 hw5 => ?_
      refine J_cl fun _ σ6 hσ6 => ?_
      exact q_J.step (fun g => j_icmp_f rfl (cc_ge_f h4) (j_aload_n rfl rfl (j_aload_n rfl rfl (j_iload_n rfl rfl (j_v0 [.ref v0, .ref v1, .int v2] [] rfl rfl rfl rfl rfl rfl hw5 (Or.inl rfl) (t_Ho_begin (by omega) hσ6) (j_iinc [some (.ref v0), some (.ref v1), some (.int (v2 + (1 : Int32))), none] (v2 + (1 : Int32)) rfl rfl (by rw [k32_1]) (Or.inr rfl) rfl (j_goto rfl (g)))))))) (l_Ho_refresh_L15 hd v0 v1 hX n (v2 + (1 : Int32)) σ6)
    exact J_some (fun h => j_icmp_t rfl (cc_ge_t h4) (j_weak (l := [some (.ref v0), some (.ref v1), none, none]) (And.intro (Or.inr rfl) (And.intro (Or.inr rfl) (And.intro (Or.inl rfl) (And.intro (Or.inr rfl) True.intro)))) (hX _ _ h)))

def f_Ho_refresh_L45 (v0 : Nat) (v1 : Nat) (v2 : Int32) : Nat → Int32 → q_H → Option ((Unit) × q_H)
  | 0, _, _ => none
  | n + 1, v3, σ => if v3 < (24 : Int32) then ((q_ob σ 3 v0).bind fun w12 => q_sq (f_Ho_join v0 v1 v2 v3 σ) fun x14 σ13 => if x14 < (2 : Int32) then (f_Ho_refresh_L45 v0 v1 v2 n (v3 + (1 : Int32)) σ13) else ((q_ob σ13 3 v0).bind fun w16 => q_sq (f_Ho_unite v0 v2 v3 σ13) fun (_ : Unit) σ17 => f_Ho_refresh_L45 v0 v1 v2 n (v3 + (1 : Int32)) σ17)) else (some ((), σ))
set_option maxRecDepth 100000 in
theorem l_Ho_refresh_L45 {fo : Option Nat} {d : Nat} (hd : 5 ≤ d + 1) {o : q_O} {σ' : q_H} {E : (Unit) → q_H → Prop} (v0 : Nat) (v1 : Nat) (v2 : Int32) (hX : ∀ (t : Unit) σ1, E (t) σ1 → q_G (q_rf fo) d m_Ho_refresh o σ' 74 [some (.ref v0), some (.ref v1), some (.int v2), none] [] σ1)  : ∀ (n : Nat) (v3 : Int32) (σ : q_H), q_J E (f_Ho_refresh_L45 v0 v1 v2 n v3 σ) (q_G (q_rf fo) d m_Ho_refresh o σ' 45 [some (.ref v0), some (.ref v1), some (.int v2), some (.int v3)] [] σ)
  | 0, v3, σ => J_none
  | n + 1, v3, σ => by
    unfold f_Ho_refresh_L45
    refine q_J.step (fun g => j_iload_n rfl rfl (j_bipush (24 : Int32) rfl kb_24 (g))) ?_
    refine J_ite (fun h11 => ?_) (fun h11 => ?_)
    · refine J_bind fun w12 hw12 => ?_
      refine J_cl fun x14 σ13 hσ13 => ?_
      refine q_J.step (fun g => j_icmp_f rfl (cc_ge_f h11) (j_aload_n rfl rfl (j_aload_n rfl rfl (j_iload_n rfl rfl (j_iload_n rfl rfl (j_v1 [.ref v0, .ref v1, .int v2, .int v3] [] rfl rfl rfl rfl rfl rfl hw12 (Or.inl rfl) (t_Ho_join (by omega) hσ13) (j_iconst (2 : Int32) rfl k32_2 (g)))))))) ?_
      refine J_ite (fun h15 => ?_) (fun h15 => ?_)
      · exact q_J.step (fun g => j_icmp_t rfl (cc_lt_t h15) (j_iinc [some (.ref v0), some (.ref v1), some (.int v2), some (.int (v3 + (1 : Int32)))] (v3 + (1 : Int32)) rfl rfl (by rw [k32_1]) (Or.inr rfl) rfl (j_goto rfl (g)))) (l_Ho_refresh_L45 hd v0 v1 v2 hX n (v3 + (1 : Int32)) σ13)
      refine J_bind fun w16 hw16 => ?_
      refine J_cl fun _ σ17 hσ17 => ?_
      exact q_J.step (fun g => j_icmp_f rfl (cc_lt_f h15) (j_aload_n rfl rfl (j_iload_n rfl rfl (j_iload_n rfl rfl (j_v0 [.ref v0, .int v2, .int v3] [] rfl rfl rfl rfl rfl rfl hw16 (Or.inl rfl) (t_Ho_unite (by omega) hσ17) (j_iinc [some (.ref v0), some (.ref v1), some (.int v2), some (.int (v3 + (1 : Int32)))] (v3 + (1 : Int32)) rfl rfl (by rw [k32_1]) (Or.inr rfl) rfl (j_goto rfl (g)))))))) (l_Ho_refresh_L45 hd v0 v1 v2 hX n (v3 + (1 : Int32)) σ17)
    exact J_some (fun h => j_icmp_t rfl (cc_ge_t h11) (j_weak (l := [some (.ref v0), some (.ref v1), some (.int v2), none]) (And.intro (Or.inr rfl) (And.intro (Or.inr rfl) (And.intro (Or.inr rfl) (And.intro (Or.inl rfl) True.intro)))) (hX _ _ h)))

def f_Ho_refresh_L35 (v0 : Nat) (v1 : Nat) : Nat → Int32 → q_H → Option ((Unit) × q_H)
  | 0, _, _ => none
  | n + 1, v2, σ => if v2 < (24 : Int32) then (q_sq (f_Ho_refresh_L45 v0 v1 v2 q_FU (v2 + (1 : Int32)) σ) fun (t19 : Unit) σ20 => f_Ho_refresh_L35 v0 v1 n (v2 + (1 : Int32)) σ20) else (some ((), σ))
set_option maxRecDepth 100000 in
theorem l_Ho_refresh_L35 {fo : Option Nat} {d : Nat} (hd : 5 ≤ d + 1) {o : q_O} {σ' : q_H} {E : (Unit) → q_H → Prop} (v0 : Nat) (v1 : Nat) (hX : ∀ (t : Unit) σ1, E (t) σ1 → q_G (q_rf fo) d m_Ho_refresh o σ' 80 [some (.ref v0), some (.ref v1), none, none] [] σ1)  : ∀ (n : Nat) (v2 : Int32) (σ : q_H), q_J E (f_Ho_refresh_L35 v0 v1 n v2 σ) (q_G (q_rf fo) d m_Ho_refresh o σ' 35 [some (.ref v0), some (.ref v1), some (.int v2), none] [] σ)
  | 0, v2, σ => J_none
  | n + 1, v2, σ => by
    unfold f_Ho_refresh_L35
    refine q_J.step (fun g => j_iload_n rfl rfl (j_bipush (24 : Int32) rfl kb_24 (g))) ?_
    refine J_ite (fun h10 => ?_) (fun h10 => ?_)
    · refine J_sq (fun (t19 : Unit) (σ20 : q_H) => q_G (q_rf fo) d m_Ho_refresh o σ' 74 [some (.ref v0), some (.ref v1), some (.int v2), none] [] σ20) (q_J.step (fun g => j_icmp_f rfl (cc_ge_f h10) (j_iload_n rfl rfl (j_iconst (1 : Int32) rfl k32_1 (j_iadd rfl (j_istore_n [some (.ref v0), some (.ref v1), some (.int v2), some (.int (v2 + (1 : Int32)))] rfl rfl (Or.inr rfl) rfl (g)))))) (l_Ho_refresh_L45 hd v0 v1 v2 (fun _ _ h => h) q_FU (v2 + (1 : Int32)) σ)) (fun t19 σ20 => ?_)
      exact q_J.step (fun g => j_iinc [some (.ref v0), some (.ref v1), some (.int (v2 + (1 : Int32))), none] (v2 + (1 : Int32)) rfl rfl (by rw [k32_1]) (Or.inr rfl) rfl (j_goto rfl (g))) (l_Ho_refresh_L35 hd v0 v1 hX n (v2 + (1 : Int32)) σ20)
    exact J_some (fun h => j_icmp_t rfl (cc_ge_t h10) (j_weak (l := [some (.ref v0), some (.ref v1), none, none]) (And.intro (Or.inr rfl) (And.intro (Or.inr rfl) (And.intro (Or.inl rfl) (And.intro (Or.inr rfl) True.intro)))) (hX _ _ h)))

def f_Ho_refresh_L90 (v0 : Nat) (v1 : Nat) (v2 : Int32) : Nat → Int32 → q_H → Option ((Unit) × q_H)
  | 0, _, _ => none
  | n + 1, v3, σ => if v3 < (24 : Int32) then ((q_gr (q_gf σ 3 v0 1)).bind fun x25 => (q_gi (q_ga σ 20 x25 v2)).bind fun x26 => (q_gr (q_gf σ 3 v0 1)).bind fun x27 => (q_gi (q_ga σ 20 x27 v3)).bind fun x28 => if x26 = x28 then ((q_gr (q_gf σ 2 v1 2)).bind fun x30 => (q_gi (q_ga σ 20 x30 v3)).bind fun x31 => (q_gr (q_gf σ 2 v1 2)).bind fun x32 => (q_gi (q_ga σ 20 x32 v2)).bind fun x33 => if x33 < x31 then ((q_ob σ 3 v0).bind fun w35 => q_sq (f_Ho_seekLeftOut v0 v1 v2 v3 σ) fun (_ : Unit) σ36 => f_Ho_refresh_L90 v0 v1 v2 n (v3 + (1 : Int32)) σ36) else (f_Ho_refresh_L90 v0 v1 v2 n (v3 + (1 : Int32)) σ)) else (f_Ho_refresh_L90 v0 v1 v2 n (v3 + (1 : Int32)) σ)) else (some ((), σ))
set_option maxRecDepth 100000 in
theorem l_Ho_refresh_L90 {fo : Option Nat} {d : Nat} (hd : 5 ≤ d + 1) {o : q_O} {σ' : q_H} {E : (Unit) → q_H → Prop} (v0 : Nat) (v1 : Nat) (v2 : Int32) (hX : ∀ (t : Unit) σ1, E (t) σ1 → q_G (q_rf fo) d m_Ho_refresh o σ' 139 [some (.ref v0), some (.ref v1), some (.int v2), none] [] σ1)  : ∀ (n : Nat) (v3 : Int32) (σ : q_H), q_J E (f_Ho_refresh_L90 v0 v1 v2 n v3 σ) (q_G (q_rf fo) d m_Ho_refresh o σ' 90 [some (.ref v0), some (.ref v1), some (.int v2), some (.int v3)] [] σ)
  | 0, v3, σ => J_none
  | n + 1, v3, σ => by
    unfold f_Ho_refresh_L90
    refine q_J.step (fun g => j_iload_n rfl rfl (j_bipush (24 : Int32) rfl kb_24 (g))) ?_
    refine J_ite (fun h24 => ?_) (fun h24 => ?_)
    · refine J_bind fun x25 hx25 => ?_
      refine J_bind fun x26 hx26 => ?_
      refine J_bind fun x27 hx27 => ?_
      refine J_bind fun x28 hx28 => ?_
      refine q_J.step (fun g => j_icmp_f rfl (cc_ge_f h24) (j_aload_n rfl rfl (j_gfr rfl hx25 (j_iload_n rfl rfl (j_ial rfl hx26 (j_aload_n rfl rfl (j_gfr rfl hx27 (j_iload_n rfl rfl (j_ial rfl hx28 (g)))))))))) ?_
      refine J_ite (fun h29 => ?_) (fun h29 => ?_)
      · refine J_bind fun x30 hx30 => ?_
        refine J_bind fun x31 hx31 => ?_
        refine J_bind fun x32 hx32 => ?_
        refine J_bind fun x33 hx33 => ?_
        refine q_J.step (fun g => j_icmp_f rfl (cc_ne_f h29) (j_aload_n rfl rfl (j_gfr rfl hx30 (j_iload_n rfl rfl (j_ial rfl hx31 (j_aload_n rfl rfl (j_gfr rfl hx32 (j_iload_n rfl rfl (j_ial rfl hx33 (g)))))))))) ?_
        refine J_ite (fun h34 => ?_) (fun h34 => ?_)
        · refine J_bind fun w35 hw35 => ?_
          refine J_cl fun _ σ36 hσ36 => ?_
          exact q_J.step (fun g => j_icmp_f rfl (cc_le_f h34) (j_aload_n rfl rfl (j_aload_n rfl rfl (j_iload_n rfl rfl (j_iload_n rfl rfl (j_v0 [.ref v0, .ref v1, .int v2, .int v3] [] rfl rfl rfl rfl rfl rfl hw35 (Or.inl rfl) (t_Ho_seekLeftOut (by omega) hσ36) (j_iinc [some (.ref v0), some (.ref v1), some (.int v2), some (.int (v3 + (1 : Int32)))] (v3 + (1 : Int32)) rfl rfl (by rw [k32_1]) (Or.inr rfl) rfl (j_goto rfl (g))))))))) (l_Ho_refresh_L90 hd v0 v1 v2 hX n (v3 + (1 : Int32)) σ36)
        exact q_J.step (fun g => j_icmp_t rfl (cc_le_t h34) (j_iinc [some (.ref v0), some (.ref v1), some (.int v2), some (.int (v3 + (1 : Int32)))] (v3 + (1 : Int32)) rfl rfl (by rw [k32_1]) (Or.inr rfl) rfl (j_goto rfl (g)))) (l_Ho_refresh_L90 hd v0 v1 v2 hX n (v3 + (1 : Int32)) σ)
      exact q_J.step (fun g => j_icmp_t rfl (cc_ne_t h29) (j_iinc [some (.ref v0), some (.ref v1), some (.int v2), some (.int (v3 + (1 : Int32)))] (v3 + (1 : Int32)) rfl rfl (by rw [k32_1]) (Or.inr rfl) rfl (j_goto rfl (g)))) (l_Ho_refresh_L90 hd v0 v1 v2 hX n (v3 + (1 : Int32)) σ)
    exact J_some (fun h => j_icmp_t rfl (cc_ge_t h24) (j_weak (l := [some (.ref v0), some (.ref v1), some (.int v2), none]) (And.intro (Or.inr rfl) (And.intro (Or.inr rfl) (And.intro (Or.inr rfl) (And.intro (Or.inl rfl) True.intro)))) (hX _ _ h)))

def f_Ho_refresh_L82 (v0 : Nat) (v1 : Nat) : Nat → Int32 → q_H → Option ((Unit) × q_H)
  | 0, _, _ => none
  | n + 1, v2, σ => if v2 < (24 : Int32) then (q_sq (f_Ho_refresh_L90 v0 v1 v2 q_FU (0 : Int32) σ) fun (t38 : Unit) σ39 => f_Ho_refresh_L82 v0 v1 n (v2 + (1 : Int32)) σ39) else (some ((), σ))
set_option maxRecDepth 100000 in
theorem l_Ho_refresh_L82 {fo : Option Nat} {d : Nat} (hd : 5 ≤ d + 1) {o : q_O} {σ' : q_H} {E : (Unit) → q_H → Prop} (v0 : Nat) (v1 : Nat) (hX : ∀ (t : Unit) σ1, E (t) σ1 → q_G (q_rf fo) d m_Ho_refresh o σ' 145 [none, none, none, none] [] σ1)  : ∀ (n : Nat) (v2 : Int32) (σ : q_H), q_J E (f_Ho_refresh_L82 v0 v1 n v2 σ) (q_G (q_rf fo) d m_Ho_refresh o σ' 82 [some (.ref v0), some (.ref v1), some (.int v2), none] [] σ)
  | 0, v2, σ => J_none
  | n + 1, v2, σ => by
    unfold f_Ho_refresh_L82
    refine q_J.step (fun g => j_iload_n rfl rfl (j_bipush (24 : Int32) rfl kb_24 (g))) ?_
    refine J_ite (fun h23 => ?_) (fun h23 => ?_)
    · refine J_sq (fun (t38 : Unit) (σ39 : q_H) => q_G (q_rf fo) d m_Ho_refresh o σ' 139 [some (.ref v0), some (.ref v1), some (.int v2), none] [] σ39) (q_J.step (fun g => j_icmp_f rfl (cc_ge_f h23) (j_iconst (0 : Int32) rfl k32_0 (j_istore_n [some (.ref v0), some (.ref v1), some (.int v2), some (.int (0 : Int32))] rfl rfl (Or.inr rfl) rfl (g)))) (l_Ho_refresh_L90 hd v0 v1 v2 (fun _ _ h => h) q_FU (0 : Int32) σ)) (fun t38 σ39 => ?_)
      exact q_J.step (fun g => j_iinc [some (.ref v0), some (.ref v1), some (.int (v2 + (1 : Int32))), none] (v2 + (1 : Int32)) rfl rfl (by rw [k32_1]) (Or.inr rfl) rfl (j_goto rfl (g))) (l_Ho_refresh_L82 hd v0 v1 hX n (v2 + (1 : Int32)) σ39)
    exact J_some (fun h => j_icmp_t rfl (cc_ge_t h23) (j_weak (l := [none, none, none, none]) (And.intro (Or.inl rfl) (And.intro (Or.inl rfl) (And.intro (Or.inl rfl) (And.intro (Or.inr rfl) True.intro)))) (hX _ _ h)))

def f_Ho_refresh (v0 : Nat) (v1 : Nat) (σ : q_H) : Option ((Unit) × q_H) := (q_gi (q_gf σ 3 v0 0)).bind fun x1 => if x1 = (0 : Int32) then (some ((), σ)) else ((q_sf σ 3 v0 0 (.int (0 : Int32))).bind fun σ3 => q_sq (f_Ho_refresh_L15 v0 v1 q_FU (0 : Int32) σ3) fun (t8 : Unit) σ9 => q_sq (f_Ho_refresh_L35 v0 v1 q_FU (0 : Int32) σ9) fun (t21 : Unit) σ22 => q_sq (f_Ho_refresh_L82 v0 v1 q_FU (0 : Int32) σ22) fun (t40 : Unit) σ41 => some ((), σ41))
set_option maxRecDepth 100000 in
theorem b_Ho_refresh {fo : Option Nat} {d : Nat} (hd : 5 ≤ d + 1) {o : q_O} {σ' : q_H} (v0 : Nat) (v1 : Nat) (σ : q_H) : q_J (fun (r : Unit) (σ1 : q_H) => o = .inl none ∧ σ' = σ1) (f_Ho_refresh v0 v1 σ) (q_G (q_rf fo) d m_Ho_refresh o σ' 0 [some (.ref v0), some (.ref v1), none, none] [] σ) := by
  unfold f_Ho_refresh
  refine J_bind fun x1 hx1 => ?_
  refine q_J.step (fun g => j_aload_n rfl rfl (j_gfi rfl hx1 (g))) ?_
  refine J_ite (fun h2 => ?_) (fun h2 => ?_)
  · exact J_some (fun h => j_if_f rfl (cc_ne_f h2) (j_vret rfl rfl h))
  refine J_bind fun σ3 hσ3 => ?_
  refine J_sq (fun (t8 : Unit) (σ9 : q_H) => q_G (q_rf fo) d m_Ho_refresh o σ' 33 [some (.ref v0), some (.ref v1), none, none] [] σ9) (q_J.step (fun g => j_if_t rfl (cc_ne_t h2) (j_aload_n rfl rfl (j_iconst (0 : Int32) rfl k32_0 (j_putf rfl rfl (by decide) rfl hσ3 (j_iconst (0 : Int32) rfl k32_0 (j_istore_n [some (.ref v0), some (.ref v1), some (.int (0 : Int32)), none] rfl rfl (Or.inr rfl) rfl (g))))))) (l_Ho_refresh_L15 hd v0 v1 (fun _ _ h => h) q_FU (0 : Int32) σ3)) (fun t8 σ9 => ?_)
  refine J_sq (fun (t21 : Unit) (σ22 : q_H) => q_G (q_rf fo) d m_Ho_refresh o σ' 80 [some (.ref v0), some (.ref v1), none, none] [] σ22) (q_J.step (fun g => j_iconst (0 : Int32) rfl k32_0 (j_istore_n [some (.ref v0), some (.ref v1), some (.int (0 : Int32)), none] rfl rfl (Or.inr rfl) rfl (g))) (l_Ho_refresh_L35 hd v0 v1 (fun _ _ h => h) q_FU (0 : Int32) σ9)) (fun t21 σ22 => ?_)
  refine J_sq (fun (t40 : Unit) (σ41 : q_H) => q_G (q_rf fo) d m_Ho_refresh o σ' 145 [none, none, none, none] [] σ41) (q_J.step (fun g => j_iconst (0 : Int32) rfl k32_0 (j_istore_n [some (.ref v0), some (.ref v1), some (.int (0 : Int32)), none] rfl rfl (Or.inr rfl) rfl (g))) (l_Ho_refresh_L82 hd v0 v1 (fun _ _ h => h) q_FU (0 : Int32) σ22)) (fun t40 σ41 => ?_)
  exact J_some (fun h => j_vret rfl rfl h)
theorem t_Ho_refresh {fo : Option Nat} {d : Nat} (hd : 5 ≤ d) {v0 : Nat} {v1 : Nat} {σ σ1 : q_H} {r : Unit} (h : f_Ho_refresh v0 v1 σ = some (r, σ1)) : q_Rel (q_rf fo) q_Ms d 97 [.ref v0, .ref v1] σ (.inl none) σ1 := by
  obtain ⟨d, rfl⟩ : ∃ d1, d = d1 + 1 := ⟨d - 1, by omega⟩
  exact q_Rel.of rfl rfl (b_Ho_refresh hd _ _ σ _ _ h ⟨rfl, rfl⟩)

def f_Rs_marriages (v0 : Nat) (v1 : Int32) (v2 : Int32) (v3 : Int32) (σ : q_H) : Option ((Int32) × q_H) := q_sq (f_Rs_isScope v1 v2 σ) fun x2 σ1 => if x2 = (0 : Int32) then (some ((-1 : Int32), σ1)) else (q_sq (f_Rs_isFrom (-1 : Int32) v3 (4 : Int32) σ1) fun x5 σ4 => if x5 = (0 : Int32) then (some ((-1 : Int32), σ4)) else ((q_ob σ4 0 v0).bind fun w7 => q_sq (f_Rs_gather v0 v1 v2 σ4) fun x9 σ8 => if v3 = (-1 : Int32) then ((q_ob σ8 9 x9).bind fun w11 => q_sq (f_Ty_all x9 (0 : Int32) σ8) fun x13 σ12 => some (x13, σ12)) else ((q_ob σ8 9 x9).bind fun w14 => q_sq (f_Ty_ofSort x9 v3 (0 : Int32) σ8) fun x16 σ15 => some (x16, σ15))))
set_option maxRecDepth 100000 in
theorem b_Rs_marriages {fo : Option Nat} {d : Nat} (hd : 5 ≤ d + 1) {o : q_O} {σ' : q_H} (v0 : Nat) (v1 : Int32) (v2 : Int32) (v3 : Int32) (σ : q_H) : q_J (fun (r : Int32) (σ1 : q_H) => o = .inl (some (.int r)) ∧ σ' = σ1) (f_Rs_marriages v0 v1 v2 v3 σ) (q_G (q_rf fo) d m_Rs_marriages o σ' 0 [some (.ref v0), some (.int v1), some (.int v2), some (.int v3), none] [] σ) := by
  unfold f_Rs_marriages
  refine J_cl fun x2 σ1 hσ1 => ?_
  refine q_J.step (fun g => j_iload_n rfl rfl (j_iload_n rfl rfl (j_s1 [.int v1, .int v2] [] rfl rfl rfl rfl rfl (t_Rs_isScope (by omega) hσ1) (g)))) ?_
  refine J_ite (fun h3 => ?_) (fun h3 => ?_)
  · exact J_some (fun h => j_if_t rfl (cc_eq_t h3) (j_iconst (-1 : Int32) rfl k32_m1 (j_iret rfl rfl h)))
  refine J_cl fun x5 σ4 hσ4 => ?_
  refine q_J.step (fun g => j_if_f rfl (cc_eq_f h3) (j_iconst (-1 : Int32) rfl k32_m1 (j_iload_n rfl rfl (j_iconst (4 : Int32) rfl k32_4 (j_s1 [.int (-1 : Int32), .int v3, .int (4 : Int32)] [] rfl rfl rfl rfl rfl (t_Rs_isFrom (by omega) hσ4) (g)))))) ?_
  refine J_ite (fun h6 => ?_) (fun h6 => ?_)
  · exact J_some (fun h => j_if_f rfl (cc_ne_f h6) (j_iconst (-1 : Int32) rfl k32_m1 (j_iret rfl rfl h)))
  refine J_bind fun w7 hw7 => ?_
  refine J_cl fun x9 σ8 hσ8 => ?_
  refine q_J.step (fun g => j_if_t rfl (cc_ne_t h6) (j_aload_n rfl rfl (j_iload_n rfl rfl (j_iload_n rfl rfl (j_v1 [.ref v0, .int v1, .int v2] [] rfl rfl rfl rfl rfl rfl hw7 (Or.inl rfl) (t_Rs_gather (by omega) hσ8) (j_astore [some (.ref v0), some (.int v1), some (.int v2), some (.int v3), some (.ref x9)] rfl rfl (Or.inr rfl) rfl (j_iload_n rfl rfl (j_iconst (-1 : Int32) rfl k32_m1 (g))))))))) ?_
  refine J_ite (fun h10 => ?_) (fun h10 => ?_)
  · refine J_bind fun w11 hw11 => ?_
    refine J_cl fun x13 σ12 hσ12 => ?_
    exact J_some (fun h => j_icmp_f rfl (cc_ne_f h10) (j_aload rfl rfl (j_iconst (0 : Int32) rfl k32_0 (j_v1 [.ref x9, .int (0 : Int32)] [] rfl rfl rfl rfl rfl rfl hw11 (Or.inl rfl) (t_Ty_all (by omega) hσ12) (j_goto rfl (j_iret rfl rfl h))))))
  refine J_bind fun w14 hw14 => ?_
  refine J_cl fun x16 σ15 hσ15 => ?_
  exact J_some (fun h => j_icmp_t rfl (cc_ne_t h10) (j_aload rfl rfl (j_iload_n rfl rfl (j_iconst (0 : Int32) rfl k32_0 (j_v1 [.ref x9, .int v3, .int (0 : Int32)] [] rfl rfl rfl rfl rfl rfl hw14 (Or.inl rfl) (t_Ty_ofSort (by omega) hσ15) (j_iret rfl rfl h))))))
theorem t_Rs_marriages {fo : Option Nat} {d : Nat} (hd : 5 ≤ d) {v0 : Nat} {v1 : Int32} {v2 : Int32} {v3 : Int32} {σ σ1 : q_H} {r : Int32} (h : f_Rs_marriages v0 v1 v2 v3 σ = some (r, σ1)) : q_Rel (q_rf fo) q_Ms d 117 [.ref v0, .int v1, .int v2, .int v3] σ (.inl (some (.int r))) σ1 := by
  obtain ⟨d, rfl⟩ : ∃ d1, d = d1 + 1 := ⟨d - 1, by omega⟩
  exact q_Rel.of rfl rfl (b_Rs_marriages hd _ _ _ _ σ _ _ h ⟨rfl, rfl⟩)

def f_Rs_share (v0 : Nat) (v1 : Int32) (v2 : Int32) (v3 : Int32) (v4 : Int32) (σ : q_H) : Option ((Int32) × q_H) := q_sq (f_Rs_isScope v1 v2 σ) fun x2 σ1 => if x2 = (0 : Int32) then (some ((-1 : Int32), σ1)) else (q_sq (f_Rs_isFrom (0 : Int32) v3 (2 : Int32) σ1) fun x5 σ4 => if x5 = (0 : Int32) then (some ((-1 : Int32), σ4)) else ((q_ob σ4 0 v0).bind fun w7 => q_sq (f_Rs_gather v0 v1 v2 σ4) fun x9 σ8 => (q_ob σ8 9 x9).bind fun w10 => q_sq (f_Ty_picked x9 v3 (0 : Int32) σ8) fun x12 σ11 => (q_ob σ11 9 x9).bind fun w13 => q_sq (f_Ty_all x9 (0 : Int32) σ11) fun x15 σ14 => q_sq (f_Ra_of x12.toInt64 x15.toInt64 σ14) fun x17 σ16 => q_sq (f_Rs_partOf x17 v4 σ16) fun x19 σ18 => some (x19, σ18)))
set_option maxRecDepth 100000 in
theorem b_Rs_share {fo : Option Nat} {d : Nat} (hd : 5 ≤ d + 1) {o : q_O} {σ' : q_H} (v0 : Nat) (v1 : Int32) (v2 : Int32) (v3 : Int32) (v4 : Int32) (σ : q_H) : q_J (fun (r : Int32) (σ1 : q_H) => o = .inl (some (.int r)) ∧ σ' = σ1) (f_Rs_share v0 v1 v2 v3 v4 σ) (q_G (q_rf fo) d m_Rs_share o σ' 0 [some (.ref v0), some (.int v1), some (.int v2), some (.int v3), some (.int v4), none] [] σ) := by
  unfold f_Rs_share
  refine J_cl fun x2 σ1 hσ1 => ?_
  refine q_J.step (fun g => j_iload_n rfl rfl (j_iload_n rfl rfl (j_s1 [.int v1, .int v2] [] rfl rfl rfl rfl rfl (t_Rs_isScope (by omega) hσ1) (g)))) ?_
  refine J_ite (fun h3 => ?_) (fun h3 => ?_)
  · exact J_some (fun h => j_if_t rfl (cc_eq_t h3) (j_iconst (-1 : Int32) rfl k32_m1 (j_iret rfl rfl h)))
  refine J_cl fun x5 σ4 hσ4 => ?_
  refine q_J.step (fun g => j_if_f rfl (cc_eq_f h3) (j_iconst (0 : Int32) rfl k32_0 (j_iload_n rfl rfl (j_iconst (2 : Int32) rfl k32_2 (j_s1 [.int (0 : Int32), .int v3, .int (2 : Int32)] [] rfl rfl rfl rfl rfl (t_Rs_isFrom (by omega) hσ4) (g)))))) ?_
  refine J_ite (fun h6 => ?_) (fun h6 => ?_)
  · exact J_some (fun h => j_if_f rfl (cc_ne_f h6) (j_iconst (-1 : Int32) rfl k32_m1 (j_iret rfl rfl h)))
  refine J_bind fun w7 hw7 => ?_
  refine J_cl fun x9 σ8 hσ8 => ?_
  refine J_bind fun w10 hw10 => ?_
  refine J_cl fun x12 σ11 hσ11 => ?_
  refine J_bind fun w13 hw13 => ?_
  refine J_cl fun x15 σ14 hσ14 => ?_
  refine J_cl fun x17 σ16 hσ16 => ?_
  refine J_cl fun x19 σ18 hσ18 => ?_
  exact J_some (fun h => j_if_t rfl (cc_ne_t h6) (j_aload_n rfl rfl (j_iload_n rfl rfl (j_iload_n rfl rfl (j_v1 [.ref v0, .int v1, .int v2] [] rfl rfl rfl rfl rfl rfl hw7 (Or.inl rfl) (t_Rs_gather (by omega) hσ8) (j_astore [some (.ref v0), some (.int v1), some (.int v2), some (.int v3), some (.int v4), some (.ref x9)] rfl rfl (Or.inr rfl) rfl (j_aload rfl rfl (j_iload_n rfl rfl (j_iconst (0 : Int32) rfl k32_0 (j_v1 [.ref x9, .int v3, .int (0 : Int32)] [] rfl rfl rfl rfl rfl rfl hw10 (Or.inl rfl) (t_Ty_picked (by omega) hσ11) (j_i2l rfl (j_aload rfl rfl (j_iconst (0 : Int32) rfl k32_0 (j_v1 [.ref x9, .int (0 : Int32)] [.long x12.toInt64] rfl rfl rfl rfl rfl rfl hw13 (Or.inl rfl) (t_Ty_all (by omega) hσ14) (j_i2l rfl (j_s1 [.long x12.toInt64, .long x15.toInt64] [] rfl rfl rfl rfl rfl (t_Ra_of (by omega) hσ16) (j_iload rfl rfl (j_s1 [q_rf x17, .int v4] [] rfl rfl rfl rfl rfl (t_Rs_partOf (by omega) hσ18) (j_iret rfl rfl h)))))))))))))))))))
theorem t_Rs_share {fo : Option Nat} {d : Nat} (hd : 5 ≤ d) {v0 : Nat} {v1 : Int32} {v2 : Int32} {v3 : Int32} {v4 : Int32} {σ σ1 : q_H} {r : Int32} (h : f_Rs_share v0 v1 v2 v3 v4 σ = some (r, σ1)) : q_Rel (q_rf fo) q_Ms d 120 [.ref v0, .int v1, .int v2, .int v3, .int v4] σ (.inl (some (.int r))) σ1 := by
  obtain ⟨d, rfl⟩ : ∃ d1, d = d1 + 1 := ⟨d - 1, by omega⟩
  exact q_Rel.of rfl rfl (b_Rs_share hd _ _ _ _ _ σ _ _ h ⟨rfl, rfl⟩)

def f_Rs_mover_L14 (v0 : Nat) (v1 : Nat) : Nat → Int32 → (Option Nat) → Int32 → q_H → Option ((Int32) × q_H)
  | 0, _, _, _, _ => none
  | n + 1, v2, v3, v4, σ => if v4 < (24 : Int32) then ((q_ob σ 0 v0).bind fun w5 => q_sq (f_Rs_moveOf v0 v4 v1 σ) fun x7 σ6 => match x7 with | none => (f_Rs_mover_L14 v0 v1 n v2 v3 (v4 + (1 : Int32)) σ6) | some a8 => (match v3 with | none => (f_Rs_mover_L14 v0 v1 n v4 (some a8) (v4 + (1 : Int32)) σ6) | some a9 => ((q_ob σ6 10 a8).bind fun w10 => q_sq (f_Ra_isFartherThan a8 a9 σ6) fun x12 σ11 => if x12 = (0 : Int32) then (f_Rs_mover_L14 v0 v1 n v2 (some a9) (v4 + (1 : Int32)) σ11) else (f_Rs_mover_L14 v0 v1 n v4 (some a8) (v4 + (1 : Int32)) σ11)))) else (some (v2, σ))
set_option maxRecDepth 100000 in
theorem l_Rs_mover_L14 {fo : Option Nat} {d : Nat} (hd : 5 ≤ d + 1) {o : q_O} {σ' : q_H} {E : (Int32) → q_H → Prop} (v0 : Nat) (v1 : Nat) (hX : ∀ (t : Int32) σ1, E (t) σ1 → q_G (q_rf fo) d m_Rs_mover o σ' 60 [none, none, some (.int t), none, none, none] [] σ1)  : ∀ (n : Nat) (v2 : Int32) (v3 : Option Nat) (v4 : Int32) (σ : q_H), q_J E (f_Rs_mover_L14 v0 v1 n v2 v3 v4 σ) (q_G (q_rf fo) d m_Rs_mover o σ' 14 [some (.ref v0), some (.ref v1), some (.int v2), some (q_rf v3), some (.int v4), none] [] σ)
  | 0, v2, v3, v4, σ => J_none
  | n + 1, v2, v3, v4, σ => by
    unfold f_Rs_mover_L14
    refine q_J.step (fun g => j_iload rfl rfl (j_bipush (24 : Int32) rfl kb_24 (g))) ?_
    refine J_ite (fun h4 => ?_) (fun h4 => ?_)
    · refine J_bind fun w5 hw5 => ?_
      refine J_cl fun x7 σ6 hσ6 => ?_
      refine q_J.step (fun g => j_icmp_f rfl (cc_ge_f h4) (j_aload_n rfl rfl (j_iload rfl rfl (j_aload_n rfl rfl (j_v1 [.ref v0, .int v4, .ref v1] [] rfl rfl rfl rfl rfl rfl hw5 (Or.inl rfl) (t_Rs_moveOf (by omega) hσ6) (j_astoreO (x := x7) [some (.ref v0), some (.ref v1), some (.int v2), some (q_rf v3), some (.int v4), some (q_rf x7)] rfl rfl (Or.inr rfl) rfl (j_aloadO (x := x7) rfl rfl (g)))))))) ?_
      cases ha8 : x7 with
      | none =>
        try subst ha8
        exact q_J.step (fun g => j_nul_t rfl (j_iinc [some (.ref v0), some (.ref v1), some (.int v2), some (q_rf v3), some (.int (v4 + (1 : Int32))), some (.null)] (v4 + (1 : Int32)) rfl rfl (by rw [k32_1]) (Or.inr (q_rf_cat _)) rfl (j_goto rfl (j_weak (l := [some (.ref v0), some (.ref v1), some (.int v2), some (q_rf v3), some (.int (v4 + (1 : Int32))), none]) (And.intro (Or.inr rfl) (And.intro (Or.inr rfl) (And.intro (Or.inr rfl) (And.intro (Or.inr rfl) (And.intro (Or.inr rfl) (And.intro (Or.inl rfl) True.intro)))))) (g))))) (l_Rs_mover_L14 hd v0 v1 hX n v2 v3 (v4 + (1 : Int32)) σ6)
      | some a8 =>
        try subst ha8
        refine q_J.step (fun g => j_nul_f rfl (j_aload_nO (x := v3) rfl rfl (g))) ?_
        cases ha9 : v3 with
        | none =>
          try subst ha9
          exact q_J.step (fun g => j_nul_t rfl (j_iload rfl rfl (j_istore_n [some (.ref v0), some (.ref v1), some (.int v4), some (.null), some (.int v4), some (.ref a8)] rfl rfl (Or.inr rfl) rfl (j_aload rfl rfl (j_astore_n [some (.ref v0), some (.ref v1), some (.int v4), some (.ref a8), some (.int v4), some (.ref a8)] rfl rfl (Or.inr rfl) rfl (j_iinc [some (.ref v0), some (.ref v1), some (.int v4), some (.ref a8), some (.int (v4 + (1 : Int32))), some (.ref a8)] (v4 + (1 : Int32)) rfl rfl (by rw [k32_1]) (Or.inr rfl) rfl (j_goto rfl (j_weak (l := [some (.ref v0), some (.ref v1), some (.int v4), some (.ref a8), some (.int (v4 + (1 : Int32))), none]) (And.intro (Or.inr rfl) (And.intro (Or.inr rfl) (And.intro (Or.inr rfl) (And.intro (Or.inr rfl) (And.intro (Or.inr rfl) (And.intro (Or.inl rfl) True.intro)))))) (g))))))))) (l_Rs_mover_L14 hd v0 v1 hX n v4 (some a8) (v4 + (1 : Int32)) σ6)
        | some a9 =>
          try subst ha9
          refine J_bind fun w10 hw10 => ?_
          refine J_cl fun x12 σ11 hσ11 => ?_
          refine q_J.step (fun g => j_nul_f rfl (j_aload rfl rfl (j_aload_n rfl rfl (j_v1 [.ref a8, .ref a9] [] rfl rfl rfl rfl rfl rfl hw10 (Or.inl rfl) (t_Ra_isFartherThan (by omega) hσ11) (g))))) ?_
          refine J_ite (fun h13 => ?_) (fun h13 => ?_)
          · exact q_J.step (fun g => j_if_t rfl (cc_eq_t h13) (j_iinc [some (.ref v0), some (.ref v1), some (.int v2), some (.ref a9), some (.int (v4 + (1 : Int32))), some (.ref a8)] (v4 + (1 : Int32)) rfl rfl (by rw [k32_1]) (Or.inr rfl) rfl (j_goto rfl (j_weak (l := [some (.ref v0), some (.ref v1), some (.int v2), some (.ref a9), some (.int (v4 + (1 : Int32))), none]) (And.intro (Or.inr rfl) (And.intro (Or.inr rfl) (And.intro (Or.inr rfl) (And.intro (Or.inr rfl) (And.intro (Or.inr rfl) (And.intro (Or.inl rfl) True.intro)))))) (g))))) (l_Rs_mover_L14 hd v0 v1 hX n v2 (some a9) (v4 + (1 : Int32)) σ11)
          exact q_J.step (fun g => j_if_f rfl (cc_eq_f h13) (j_iload rfl rfl (j_istore_n [some (.ref v0), some (.ref v1), some (.int v4), some (.ref a9), some (.int v4), some (.ref a8)] rfl rfl (Or.inr rfl) rfl (j_aload rfl rfl (j_astore_n [some (.ref v0), some (.ref v1), some (.int v4), some (.ref a8), some (.int v4), some (.ref a8)] rfl rfl (Or.inr rfl) rfl (j_iinc [some (.ref v0), some (.ref v1), some (.int v4), some (.ref a8), some (.int (v4 + (1 : Int32))), some (.ref a8)] (v4 + (1 : Int32)) rfl rfl (by rw [k32_1]) (Or.inr rfl) rfl (j_goto rfl (j_weak (l := [some (.ref v0), some (.ref v1), some (.int v4), some (.ref a8), some (.int (v4 + (1 : Int32))), none]) (And.intro (Or.inr rfl) (And.intro (Or.inr rfl) (And.intro (Or.inr rfl) (And.intro (Or.inr rfl) (And.intro (Or.inr rfl) (And.intro (Or.inl rfl) True.intro)))))) (g))))))))) (l_Rs_mover_L14 hd v0 v1 hX n v4 (some a8) (v4 + (1 : Int32)) σ11)
    exact J_some (fun h => j_icmp_t rfl (cc_ge_t h4) (j_weak (l := [none, none, some (.int v2), none, none, none]) (And.intro (Or.inl rfl) (And.intro (Or.inl rfl) (And.intro (Or.inr rfl) (And.intro (Or.inl rfl) (And.intro (Or.inl rfl) (And.intro (Or.inr rfl) True.intro)))))) (hX _ _ h)))

def f_Rs_mover (v0 : Nat) (σ : q_H) : Option ((Int32) × q_H) := (q_ob σ 0 v0).bind fun w1 => q_sq (f_Rs_gather v0 (0 : Int32) (0 : Int32) σ) fun x3 σ2 => q_sq (f_Rs_mover_L14 v0 x3 q_FU (-1 : Int32) none (0 : Int32) σ2) fun (t14 : Int32) σ15 => some (t14, σ15)
set_option maxRecDepth 100000 in
theorem b_Rs_mover {fo : Option Nat} {d : Nat} (hd : 5 ≤ d + 1) {o : q_O} {σ' : q_H} (v0 : Nat) (σ : q_H) : q_J (fun (r : Int32) (σ1 : q_H) => o = .inl (some (.int r)) ∧ σ' = σ1) (f_Rs_mover v0 σ) (q_G (q_rf fo) d m_Rs_mover o σ' 0 [some (.ref v0), none, none, none, none, none] [] σ) := by
  unfold f_Rs_mover
  refine J_bind fun w1 hw1 => ?_
  refine J_cl fun x3 σ2 hσ2 => ?_
  refine J_sq (fun (t14 : Int32) (σ15 : q_H) => q_G (q_rf fo) d m_Rs_mover o σ' 60 [none, none, some (.int t14), none, none, none] [] σ15) (q_J.step (fun g => j_aload_n rfl rfl (j_iconst (0 : Int32) rfl k32_0 (j_iconst (0 : Int32) rfl k32_0 (j_v1 [.ref v0, .int (0 : Int32), .int (0 : Int32)] [] rfl rfl rfl rfl rfl rfl hw1 (Or.inl rfl) (t_Rs_gather (by omega) hσ2) (j_astore_n [some (.ref v0), some (.ref x3), none, none, none, none] rfl rfl (Or.inr rfl) rfl (j_iconst (-1 : Int32) rfl k32_m1 (j_istore_n [some (.ref v0), some (.ref x3), some (.int (-1 : Int32)), none, none, none] rfl rfl (Or.inr rfl) rfl (j_null rfl (j_astore_nO (x := none) [some (.ref v0), some (.ref x3), some (.int (-1 : Int32)), some (.null), none, none] rfl rfl (Or.inr rfl) rfl (j_iconst (0 : Int32) rfl k32_0 (j_istore [some (.ref v0), some (.ref x3), some (.int (-1 : Int32)), some (.null), some (.int (0 : Int32)), none] rfl rfl (Or.inr rfl) rfl (g)))))))))))) (l_Rs_mover_L14 hd v0 x3 (fun _ _ h => h) q_FU (-1 : Int32) none (0 : Int32) σ2)) (fun t14 σ15 => ?_)
  exact J_some (fun h => j_iload_n rfl rfl (j_iret rfl rfl h))
theorem t_Rs_mover {fo : Option Nat} {d : Nat} (hd : 5 ≤ d) {v0 : Nat} {σ σ1 : q_H} {r : Int32} (h : f_Rs_mover v0 σ = some (r, σ1)) : q_Rel (q_rf fo) q_Ms d 122 [.ref v0] σ (.inl (some (.int r))) σ1 := by
  obtain ⟨d, rfl⟩ : ∃ d1, d = d1 + 1 := ⟨d - 1, by omega⟩
  exact q_Rel.of rfl rfl (b_Rs_mover hd _ σ _ _ h ⟨rfl, rfl⟩)

