/-! Methods of the reference. -/
def f_Mo_count_L42 (v0 : Nat) (v1 : Int32) : Nat → Int32 → Int32 → q_H → Option ((Int32) × q_H)
  | 0, _, _, _ => none
  | n + 1, v2, v3, σ => if v3 < (24 : Int32) then (if v1 = (0 : Int32) then ((q_gr (q_gf σ 12 v0 2)).bind fun x15 => (q_gi (q_ga σ 22 x15 v3)).bind fun x16 => if x16 = (0 : Int32) then (if v1 = (1 : Int32) then ((q_ob σ 12 v0).bind fun w19 => q_sq (f_Mo_isThere v0 v3 σ) fun x21 σ20 => if x21 = (0 : Int32) then (if v1 = (2 : Int32) then ((q_ob σ20 12 v0).bind fun w24 => q_sq (f_Mo_isThere v0 v3 σ20) fun x26 σ25 => if x26 = (0 : Int32) then (f_Mo_count_L42 v0 v1 n (v2 + (0 : Int32)) (v3 + (1 : Int32)) σ25) else ((q_gr (q_gf σ25 12 v0 7)).bind fun x28 => (q_gi (q_ga σ25 20 x28 v3)).bind fun x29 => f_Mo_count_L42 v0 v1 n (v2 + x29) (v3 + (1 : Int32)) σ25)) else (f_Mo_count_L42 v0 v1 n (v2 + (0 : Int32)) (v3 + (1 : Int32)) σ20)) else (f_Mo_count_L42 v0 v1 n (v2 + (1 : Int32)) (v3 + (1 : Int32)) σ20)) else (if v1 = (2 : Int32) then ((q_ob σ 12 v0).bind fun w31 => q_sq (f_Mo_isThere v0 v3 σ) fun x33 σ32 => if x33 = (0 : Int32) then (f_Mo_count_L42 v0 v1 n (v2 + (0 : Int32)) (v3 + (1 : Int32)) σ32) else ((q_gr (q_gf σ32 12 v0 7)).bind fun x35 => (q_gi (q_ga σ32 20 x35 v3)).bind fun x36 => f_Mo_count_L42 v0 v1 n (v2 + x36) (v3 + (1 : Int32)) σ32)) else (f_Mo_count_L42 v0 v1 n (v2 + (0 : Int32)) (v3 + (1 : Int32)) σ))) else (f_Mo_count_L42 v0 v1 n (v2 + (1 : Int32)) (v3 + (1 : Int32)) σ)) else (if v1 = (1 : Int32) then ((q_ob σ 12 v0).bind fun w38 => q_sq (f_Mo_isThere v0 v3 σ) fun x40 σ39 => if x40 = (0 : Int32) then (if v1 = (2 : Int32) then ((q_ob σ39 12 v0).bind fun w43 => q_sq (f_Mo_isThere v0 v3 σ39) fun x45 σ44 => if x45 = (0 : Int32) then (f_Mo_count_L42 v0 v1 n (v2 + (0 : Int32)) (v3 + (1 : Int32)) σ44) else ((q_gr (q_gf σ44 12 v0 7)).bind fun x47 => (q_gi (q_ga σ44 20 x47 v3)).bind fun x48 => f_Mo_count_L42 v0 v1 n (v2 + x48) (v3 + (1 : Int32)) σ44)) else (f_Mo_count_L42 v0 v1 n (v2 + (0 : Int32)) (v3 + (1 : Int32)) σ39)) else (f_Mo_count_L42 v0 v1 n (v2 + (1 : Int32)) (v3 + (1 : Int32)) σ39)) else (if v1 = (2 : Int32) then ((q_ob σ 12 v0).bind fun w50 => q_sq (f_Mo_isThere v0 v3 σ) fun x52 σ51 => if x52 = (0 : Int32) then (f_Mo_count_L42 v0 v1 n (v2 + (0 : Int32)) (v3 + (1 : Int32)) σ51) else ((q_gr (q_gf σ51 12 v0 7)).bind fun x54 => (q_gi (q_ga σ51 20 x54 v3)).bind fun x55 => f_Mo_count_L42 v0 v1 n (v2 + x55) (v3 + (1 : Int32)) σ51)) else (f_Mo_count_L42 v0 v1 n (v2 + (0 : Int32)) (v3 + (1 : Int32)) σ)))) else (some (v2, σ))
set_option maxRecDepth 100000 in
theorem l_Mo_count_L42 {fo : Option Nat} {d : Nat} (hd : 7 ≤ d + 1) {o : q_O} {σ' : q_H} {E : (Int32) → q_H → Prop} (v0 : Nat) (v1 : Int32) (hX : ∀ (t : Int32) σ1, E (t) σ1 → q_G (q_rf fo) d m_Mo_count o σ' 110 [some (.ref v0), some (.int v1), some (.int t), none] [] σ1)  : ∀ (n : Nat) (v2 : Int32) (v3 : Int32) (σ : q_H), q_J E (f_Mo_count_L42 v0 v1 n v2 v3 σ) (q_G (q_rf fo) d m_Mo_count o σ' 42 [some (.ref v0), some (.int v1), some (.int v2), some (.int v3)] [] σ)
  | 0, v2, v3, σ => J_none
  | n + 1, v2, v3, σ => by
    unfold f_Mo_count_L42
    refine q_J.step (fun g => j_iload_n rfl rfl (j_bipush (24 : Int32) rfl kb_24 (g))) ?_
    refine J_ite (fun h13 => ?_) (fun h13 => ?_)
    · refine q_J.step (fun g => j_icmp_f rfl (cc_ge_f h13) (j_iload_n rfl rfl (j_iload_n rfl rfl (g)))) ?_
      refine J_ite (fun h14 => ?_) (fun h14 => ?_)
      · refine J_bind fun x15 hx15 => ?_
        refine J_bind fun x16 hx16 => ?_
        refine q_J.step (fun g => j_if_f rfl (cc_ne_f h14) (j_aload_n rfl rfl (j_gfr rfl hx15 (j_iload_n rfl rfl (j_bal rfl rfl hx16 (g)))))) ?_
        refine J_ite (fun h17 => ?_) (fun h17 => ?_)
        · refine q_J.step (fun g => j_if_f rfl (cc_ne_f h17) (j_iload_n rfl rfl (j_iconst (1 : Int32) rfl k32_1 (g)))) ?_
          refine J_ite (fun h18 => ?_) (fun h18 => ?_)
          · refine J_bind fun w19 hw19 => ?_
            refine J_cl fun x21 σ20 hσ20 => ?_
            refine q_J.step (fun g => j_icmp_f rfl (cc_ne_f h18) (j_aload_n rfl rfl (j_iload_n rfl rfl (j_v1 [.ref v0, .int v3] [.int v2] rfl rfl rfl rfl rfl rfl hw19 (Or.inl rfl) (t_Mo_isThere (by omega) hσ20) (g))))) ?_
            refine J_ite (fun h22 => ?_) (fun h22 => ?_)
            · refine q_J.step (fun g => j_if_t rfl (cc_eq_t h22) (j_iload_n rfl rfl (j_iconst (2 : Int32) rfl k32_2 (g)))) ?_
              refine J_ite (fun h23 => ?_) (fun h23 => ?_)
              · refine J_bind fun w24 hw24 => ?_
                refine J_cl fun x26 σ25 hσ25 => ?_
                refine q_J.step (fun g => j_icmp_f rfl (cc_ne_f h23) (j_aload_n rfl rfl (j_iload_n rfl rfl (j_v1 [.ref v0, .int v3] [.int v2] rfl rfl rfl rfl rfl rfl hw24 (Or.inl rfl) (t_Mo_isThere (by omega) hσ25) (g))))) ?_
                refine J_ite (fun h27 => ?_) (fun h27 => ?_)
                · exact q_J.step (fun g => j_if_t rfl (cc_eq_t h27) (j_iconst (0 : Int32) rfl k32_0 (j_iadd rfl (j_istore_n [some (.ref v0), some (.int v1), some (.int (v2 + (0 : Int32))), some (.int v3)] rfl rfl (Or.inr rfl) rfl (j_iinc [some (.ref v0), some (.int v1), some (.int (v2 + (0 : Int32))), some (.int (v3 + (1 : Int32)))] (v3 + (1 : Int32)) rfl rfl (by rw [k32_1]) (Or.inr rfl) rfl (j_goto rfl (g))))))) (l_Mo_count_L42 hd v0 v1 hX n (v2 + (0 : Int32)) (v3 + (1 : Int32)) σ25)
                refine J_bind fun x28 hx28 => ?_
                refine J_bind fun x29 hx29 => ?_
                exact q_J.step (fun g => j_if_f rfl (cc_eq_f h27) (j_aload_n rfl rfl (j_gfr rfl hx28 (j_iload_n rfl rfl (j_ial rfl hx29 (j_goto rfl (j_iadd rfl (j_istore_n [some (.ref v0), some (.int v1), some (.int (v2 + x29)), some (.int v3)] rfl rfl (Or.inr rfl) rfl (j_iinc [some (.ref v0), some (.int v1), some (.int (v2 + x29)), some (.int (v3 + (1 : Int32)))] (v3 + (1 : Int32)) rfl rfl (by rw [k32_1]) (Or.inr rfl) rfl (j_goto rfl (g))))))))))) (l_Mo_count_L42 hd v0 v1 hX n (v2 + x29) (v3 + (1 : Int32)) σ25)
              exact q_J.step (fun g => j_icmp_t rfl (cc_ne_t h23) (j_iconst (0 : Int32) rfl k32_0 (j_iadd rfl (j_istore_n [some (.ref v0), some (.int v1), some (.int (v2 + (0 : Int32))), some (.int v3)] rfl rfl (Or.inr rfl) rfl (j_iinc [some (.ref v0), some (.int v1), some (.int (v2 + (0 : Int32))), some (.int (v3 + (1 : Int32)))] (v3 + (1 : Int32)) rfl rfl (by rw [k32_1]) (Or.inr rfl) rfl (j_goto rfl (g))))))) (l_Mo_count_L42 hd v0 v1 hX n (v2 + (0 : Int32)) (v3 + (1 : Int32)) σ20)
            exact q_J.step (fun g => j_if_f rfl (cc_eq_f h22) (j_iconst (1 : Int32) rfl k32_1 (j_goto rfl (j_iadd rfl (j_istore_n [some (.ref v0), some (.int v1), some (.int (v2 + (1 : Int32))), some (.int v3)] rfl rfl (Or.inr rfl) rfl (j_iinc [some (.ref v0), some (.int v1), some (.int (v2 + (1 : Int32))), some (.int (v3 + (1 : Int32)))] (v3 + (1 : Int32)) rfl rfl (by rw [k32_1]) (Or.inr rfl) rfl (j_goto rfl (g)))))))) (l_Mo_count_L42 hd v0 v1 hX n (v2 + (1 : Int32)) (v3 + (1 : Int32)) σ20)
          refine q_J.step (fun g => j_icmp_t rfl (cc_ne_t h18) (j_iload_n rfl rfl (j_iconst (2 : Int32) rfl k32_2 (g)))) ?_
          refine J_ite (fun h30 => ?_) (fun h30 => ?_)
          · refine J_bind fun w31 hw31 => ?_
            refine J_cl fun x33 σ32 hσ32 => ?_
            refine q_J.step (fun g => j_icmp_f rfl (cc_ne_f h30) (j_aload_n rfl rfl (j_iload_n rfl rfl (j_v1 [.ref v0, .int v3] [.int v2] rfl rfl rfl rfl rfl rfl hw31 (Or.inl rfl) (t_Mo_isThere (by omega) hσ32) (g))))) ?_
            refine J_ite (fun h34 => ?_) (fun h34 => ?_)
            · exact q_J.step (fun g => j_if_t rfl (cc_eq_t h34) (j_iconst (0 : Int32) rfl k32_0 (j_iadd rfl (j_istore_n [some (.ref v0), some (.int v1), some (.int (v2 + (0 : Int32))), some (.int v3)] rfl rfl (Or.inr rfl) rfl (j_iinc [some (.ref v0), some (.int v1), some (.int (v2 + (0 : Int32))), some (.int (v3 + (1 : Int32)))] (v3 + (1 : Int32)) rfl rfl (by rw [k32_1]) (Or.inr rfl) rfl (j_goto rfl (g))))))) (l_Mo_count_L42 hd v0 v1 hX n (v2 + (0 : Int32)) (v3 + (1 : Int32)) σ32)
            refine J_bind fun x35 hx35 => ?_
            refine J_bind fun x36 hx36 => ?_
            exact q_J.step (fun g => j_if_f rfl (cc_eq_f h34) (j_aload_n rfl rfl (j_gfr rfl hx35 (j_iload_n rfl rfl (j_ial rfl hx36 (j_goto rfl (j_iadd rfl (j_istore_n [some (.ref v0), some (.int v1), some (.int (v2 + x36)), some (.int v3)] rfl rfl (Or.inr rfl) rfl (j_iinc [some (.ref v0), some (.int v1), some (.int (v2 + x36)), some (.int (v3 + (1 : Int32)))] (v3 + (1 : Int32)) rfl rfl (by rw [k32_1]) (Or.inr rfl) rfl (j_goto rfl (g))))))))))) (l_Mo_count_L42 hd v0 v1 hX n (v2 + x36) (v3 + (1 : Int32)) σ32)
          exact q_J.step (fun g => j_icmp_t rfl (cc_ne_t h30) (j_iconst (0 : Int32) rfl k32_0 (j_iadd rfl (j_istore_n [some (.ref v0), some (.int v1), some (.int (v2 + (0 : Int32))), some (.int v3)] rfl rfl (Or.inr rfl) rfl (j_iinc [some (.ref v0), some (.int v1), some (.int (v2 + (0 : Int32))), some (.int (v3 + (1 : Int32)))] (v3 + (1 : Int32)) rfl rfl (by rw [k32_1]) (Or.inr rfl) rfl (j_goto rfl (g))))))) (l_Mo_count_L42 hd v0 v1 hX n (v2 + (0 : Int32)) (v3 + (1 : Int32)) σ)
        exact q_J.step (fun g => j_if_t rfl (cc_ne_t h17) (j_iconst (1 : Int32) rfl k32_1 (j_goto rfl (j_iadd rfl (j_istore_n [some (.ref v0), some (.int v1), some (.int (v2 + (1 : Int32))), some (.int v3)] rfl rfl (Or.inr rfl) rfl (j_iinc [some (.ref v0), some (.int v1), some (.int (v2 + (1 : Int32))), some (.int (v3 + (1 : Int32)))] (v3 + (1 : Int32)) rfl rfl (by rw [k32_1]) (Or.inr rfl) rfl (j_goto rfl (g)))))))) (l_Mo_count_L42 hd v0 v1 hX n (v2 + (1 : Int32)) (v3 + (1 : Int32)) σ)
      refine q_J.step (fun g => j_if_t rfl (cc_ne_t h14) (j_iload_n rfl rfl (j_iconst (1 : Int32) rfl k32_1 (g)))) ?_
      refine J_ite (fun h37 => ?_) (fun h37 => ?_)
      · refine J_bind fun w38 hw38 => ?_
        refine J_cl fun x40 σ39 hσ39 => ?_
        refine q_J.step (fun g => j_icmp_f rfl (cc_ne_f h37) (j_aload_n rfl rfl (j_iload_n rfl rfl (j_v1 [.ref v0, .int v3] [.int v2] rfl rfl rfl rfl rfl rfl hw38 (Or.inl rfl) (t_Mo_isThere (by omega) hσ39) (g))))) ?_
        refine J_ite (fun h41 => ?_) (fun h41 => ?_)
        · refine q_J.step (fun g => j_if_t rfl (cc_eq_t h41) (j_iload_n rfl rfl (j_iconst (2 : Int32) rfl k32_2 (g)))) ?_
          refine J_ite (fun h42 => ?_) (fun h42 => ?_)
          · refine J_bind fun w43 hw43 => ?_
            refine J_cl fun x45 σ44 hσ44 => ?_
            refine q_J.step (fun g => j_icmp_f rfl (cc_ne_f h42) (j_aload_n rfl rfl (j_iload_n rfl rfl (j_v1 [.ref v0, .int v3] [.int v2] rfl rfl rfl rfl rfl rfl hw43 (Or.inl rfl) (t_Mo_isThere (by omega) hσ44) (g))))) ?_
            refine J_ite (fun h46 => ?_) (fun h46 => ?_)
            · exact q_J.step (fun g => j_if_t rfl (cc_eq_t h46) (j_iconst (0 : Int32) rfl k32_0 (j_iadd rfl (j_istore_n [some (.ref v0), some (.int v1), some (.int (v2 + (0 : Int32))), some (.int v3)] rfl rfl (Or.inr rfl) rfl (j_iinc [some (.ref v0), some (.int v1), some (.int (v2 + (0 : Int32))), some (.int (v3 + (1 : Int32)))] (v3 + (1 : Int32)) rfl rfl (by rw [k32_1]) (Or.inr rfl) rfl (j_goto rfl (g))))))) (l_Mo_count_L42 hd v0 v1 hX n (v2 + (0 : Int32)) (v3 + (1 : Int32)) σ44)
            refine J_bind fun x47 hx47 => ?_
            refine J_bind fun x48 hx48 => ?_
            exact q_J.step (fun g => j_if_f rfl (cc_eq_f h46) (j_aload_n rfl rfl (j_gfr rfl hx47 (j_iload_n rfl rfl (j_ial rfl hx48 (j_goto rfl (j_iadd rfl (j_istore_n [some (.ref v0), some (.int v1), some (.int (v2 + x48)), some (.int v3)] rfl rfl (Or.inr rfl) rfl (j_iinc [some (.ref v0), some (.int v1), some (.int (v2 + x48)), some (.int (v3 + (1 : Int32)))] (v3 + (1 : Int32)) rfl rfl (by rw [k32_1]) (Or.inr rfl) rfl (j_goto rfl (g))))))))))) (l_Mo_count_L42 hd v0 v1 hX n (v2 + x48) (v3 + (1 : Int32)) σ44)
          exact q_J.step (fun g => j_icmp_t rfl (cc_ne_t h42) (j_iconst (0 : Int32) rfl k32_0 (j_iadd rfl (j_istore_n [some (.ref v0), some (.int v1), some (.int (v2 + (0 : Int32))), some (.int v3)] rfl rfl (Or.inr rfl) rfl (j_iinc [some (.ref v0), some (.int v1), some (.int (v2 + (0 : Int32))), some (.int (v3 + (1 : Int32)))] (v3 + (1 : Int32)) rfl rfl (by rw [k32_1]) (Or.inr rfl) rfl (j_goto rfl (g))))))) (l_Mo_count_L42 hd v0 v1 hX n (v2 + (0 : Int32)) (v3 + (1 : Int32)) σ39)
        exact q_J.step (fun g => j_if_f rfl (cc_eq_f h41) (j_iconst (1 : Int32) rfl k32_1 (j_goto rfl (j_iadd rfl (j_istore_n [some (.ref v0), some (.int v1), some (.int (v2 + (1 : Int32))), some (.int v3)] rfl rfl (Or.inr rfl) rfl (j_iinc [some (.ref v0), some (.int v1), some (.int (v2 + (1 : Int32))), some (.int (v3 + (1 : Int32)))] (v3 + (1 : Int32)) rfl rfl (by rw [k32_1]) (Or.inr rfl) rfl (j_goto rfl (g)))))))) (l_Mo_count_L42 hd v0 v1 hX n (v2 + (1 : Int32)) (v3 + (1 : Int32)) σ39)
      refine q_J.step (fun g => j_icmp_t rfl (cc_ne_t h37) (j_iload_n rfl rfl (j_iconst (2 : Int32) rfl k32_2 (g)))) ?_
      refine J_ite (fun h49 => ?_) (fun h49 => ?_)
      · refine J_bind fun w50 hw50 => ?_
        refine J_cl fun x52 σ51 hσ51 => ?_
        refine q_J.step (fun g => j_icmp_f rfl (cc_ne_f h49) (j_aload_n rfl rfl (j_iload_n rfl rfl (j_v1 [.ref v0, .int v3] [.int v2] rfl rfl rfl rfl rfl rfl hw50 (Or.inl rfl) (t_Mo_isThere (by omega) hσ51) (g))))) ?_
        refine J_ite (fun h53 => ?_) (fun h53 => ?_)
        · exact q_J.step (fun g => j_if_t rfl (cc_eq_t h53) (j_iconst (0 : Int32) rfl k32_0 (j_iadd rfl (j_istore_n [some (.ref v0), some (.int v1), some (.int (v2 + (0 : Int32))), some (.int v3)] rfl rfl (Or.inr rfl) rfl (j_iinc [some (.ref v0), some (.int v1), some (.int (v2 + (0 : Int32))), some (.int (v3 + (1 : Int32)))] (v3 + (1 : Int32)) rfl rfl (by rw [k32_1]) (Or.inr rfl) rfl (j_goto rfl (g))))))) (l_Mo_count_L42 hd v0 v1 hX n (v2 + (0 : Int32)) (v3 + (1 : Int32)) σ51)
        refine J_bind fun x54 hx54 => ?_
        refine J_bind fun x55 hx55 => ?_
        exact q_J.step (fun g => j_if_f rfl (cc_eq_f h53) (j_aload_n rfl rfl (j_gfr rfl hx54 (j_iload_n rfl rfl (j_ial rfl hx55 (j_goto rfl (j_iadd rfl (j_istore_n [some (.ref v0), some (.int v1), some (.int (v2 + x55)), some (.int v3)] rfl rfl (Or.inr rfl) rfl (j_iinc [some (.ref v0), some (.int v1), some (.int (v2 + x55)), some (.int (v3 + (1 : Int32)))] (v3 + (1 : Int32)) rfl rfl (by rw [k32_1]) (Or.inr rfl) rfl (j_goto rfl (g))))))))))) (l_Mo_count_L42 hd v0 v1 hX n (v2 + x55) (v3 + (1 : Int32)) σ51)
      exact q_J.step (fun g => j_icmp_t rfl (cc_ne_t h49) (j_iconst (0 : Int32) rfl k32_0 (j_iadd rfl (j_istore_n [some (.ref v0), some (.int v1), some (.int (v2 + (0 : Int32))), some (.int v3)] rfl rfl (Or.inr rfl) rfl (j_iinc [some (.ref v0), some (.int v1), some (.int (v2 + (0 : Int32))), some (.int (v3 + (1 : Int32)))] (v3 + (1 : Int32)) rfl rfl (by rw [k32_1]) (Or.inr rfl) rfl (j_goto rfl (g))))))) (l_Mo_count_L42 hd v0 v1 hX n (v2 + (0 : Int32)) (v3 + (1 : Int32)) σ)
    exact J_some (fun h => j_icmp_t rfl (cc_ge_t h13) (j_weak (l := [some (.ref v0), some (.int v1), some (.int v2), none]) (And.intro (Or.inr rfl) (And.intro (Or.inr rfl) (And.intro (Or.inr rfl) (And.intro (Or.inl rfl) True.intro)))) (hX _ _ h)))

def f_Mo_count (v0 : Nat) (v1 : Int32) (σ : q_H) : Option ((Int32) × q_H) := (q_sf σ 12 v0 0 (.int (0 : Int32))).bind fun σ1 => q_sq (f_Mo_within v1 (0 : Int32) (7 : Int32) σ1) fun x3 σ2 => if x3 = (0 : Int32) then (some ((-1 : Int32), σ2)) else (if v1 = (3 : Int32) then ((q_ob σ2 12 v0).bind fun w6 => q_sq (f_Mo_piecesOf v0 σ2) fun x8 σ7 => some (x8, σ7)) else (if v1 = (7 : Int32) then ((q_ob σ2 12 v0).bind fun w10 => q_sq (f_Mo_ties v0 σ2) fun x12 σ11 => some (x12, σ11)) else (q_sq (f_Mo_count_L42 v0 v1 q_FU (0 : Int32) (0 : Int32) σ2) fun (t56 : Int32) σ57 => if v1 < (3 : Int32) then (some (t56, σ57)) else (if v1 = (4 : Int32) then ((q_gi (q_gf σ57 12 v0 32)).bind fun x60 => some (x60, σ57)) else (if v1 = (5 : Int32) then ((q_gr (q_gf σ57 12 v0 35)).bind fun x62 => (q_gi (q_ga σ57 20 x62 (0 : Int32))).bind fun x63 => (q_gr (q_gf σ57 12 v0 35)).bind fun x64 => (q_gi (q_ga σ57 20 x64 (1 : Int32))).bind fun x65 => (q_gr (q_gf σ57 12 v0 35)).bind fun x66 => (q_gi (q_ga σ57 20 x66 (2 : Int32))).bind fun x67 => (q_gr (q_gf σ57 12 v0 35)).bind fun x68 => (q_gi (q_ga σ57 20 x68 (3 : Int32))).bind fun x69 => some ((((x63 + x65) + x67) + x69), σ57)) else ((q_gi (q_gf σ57 12 v0 16)).bind fun x70 => some (x70, σ57)))))))
set_option maxRecDepth 100000 in
theorem b_Mo_count {fo : Option Nat} {d : Nat} (hd : 7 ≤ d + 1) {o : q_O} {σ' : q_H} (v0 : Nat) (v1 : Int32) (σ : q_H) : q_J (fun (r : Int32) (σ1 : q_H) => o = .inl (some (.int r)) ∧ σ' = σ1) (f_Mo_count v0 v1 σ) (q_G (q_rf fo) d m_Mo_count o σ' 0 [some (.ref v0), some (.int v1), none, none] [] σ) := by
  unfold f_Mo_count
  refine J_bind fun σ1 hσ1 => ?_
  refine J_cl fun x3 σ2 hσ2 => ?_
  refine q_J.step (fun g => j_aload_n rfl rfl (j_iconst (0 : Int32) rfl k32_0 (j_putf rfl rfl rfl rfl hσ1 (j_iload_n rfl rfl (j_iconst (0 : Int32) rfl k32_0 (j_bipush (7 : Int32) rfl kb_7 (j_s1 [.int v1, .int (0 : Int32), .int (7 : Int32)] [] rfl rfl rfl rfl rfl (t_Mo_within (by omega) hσ2) (g)))))))) ?_
  refine J_ite (fun h4 => ?_) (fun h4 => ?_)
  · exact J_some (fun h => j_if_f rfl (cc_ne_f h4) (j_iconst (-1 : Int32) rfl k32_m1 (j_iret rfl rfl h)))
  refine q_J.step (fun g => j_if_t rfl (cc_ne_t h4) (j_iload_n rfl rfl (j_iconst (3 : Int32) rfl k32_3 (g)))) ?_
  refine J_ite (fun h5 => ?_) (fun h5 => ?_)
  · refine J_bind fun w6 hw6 => ?_
    refine J_cl fun x8 σ7 hσ7 => ?_
    exact J_some (fun h => j_icmp_f rfl (cc_ne_f h5) (j_aload_n rfl rfl (j_v1 [.ref v0] [] rfl rfl rfl rfl rfl rfl hw6 (Or.inl rfl) (t_Mo_piecesOf (by omega) hσ7) (j_iret rfl rfl h))))
  refine q_J.step (fun g => j_icmp_t rfl (cc_ne_t h5) (j_iload_n rfl rfl (j_bipush (7 : Int32) rfl kb_7 (g)))) ?_
  refine J_ite (fun h9 => ?_) (fun h9 => ?_)
  · refine J_bind fun w10 hw10 => ?_
    refine J_cl fun x12 σ11 hσ11 => ?_
    exact J_some (fun h => j_icmp_f rfl (cc_ne_f h9) (j_aload_n rfl rfl (j_v1 [.ref v0] [] rfl rfl rfl rfl rfl rfl hw10 (Or.inl rfl) (t_Mo_ties (by omega) hσ11) (j_iret rfl rfl h))))
  refine J_sq (fun (t56 : Int32) (σ57 : q_H) => q_G (q_rf fo) d m_Mo_count o σ' 110 [some (.ref v0), some (.int v1), some (.int t56), none] [] σ57) (q_J.step (fun g => j_icmp_t rfl (cc_ne_t h9) (j_iconst (0 : Int32) rfl k32_0 (j_istore_n [some (.ref v0), some (.int v1), some (.int (0 : Int32)), none] rfl rfl (Or.inr rfl) rfl (j_iconst (0 : Int32) rfl k32_0 (j_istore_n [some (.ref v0), some (.int v1), some (.int (0 : Int32)), some (.int (0 : Int32))] rfl rfl (Or.inr rfl) rfl (g)))))) (l_Mo_count_L42 hd v0 v1 (fun _ _ h => h) q_FU (0 : Int32) (0 : Int32) σ2)) (fun t56 σ57 => ?_)
  refine q_J.step (fun g => j_iload_n rfl rfl (j_iconst (3 : Int32) rfl k32_3 (g))) ?_
  refine J_ite (fun h58 => ?_) (fun h58 => ?_)
  · exact J_some (fun h => j_icmp_f rfl (cc_ge_f h58) (j_iload_n rfl rfl (j_goto rfl (j_iret rfl rfl h))))
  refine q_J.step (fun g => j_icmp_t rfl (cc_ge_t h58) (j_iload_n rfl rfl (j_iconst (4 : Int32) rfl k32_4 (g)))) ?_
  refine J_ite (fun h59 => ?_) (fun h59 => ?_)
  · refine J_bind fun x60 hx60 => ?_
    exact J_some (fun h => j_icmp_f rfl (cc_ne_f h59) (j_aload_n rfl rfl (j_gfi rfl hx60 (j_goto rfl (j_iret rfl rfl h)))))
  refine q_J.step (fun g => j_icmp_t rfl (cc_ne_t h59) (j_iload_n rfl rfl (j_iconst (5 : Int32) rfl k32_5 (g)))) ?_
  refine J_ite (fun h61 => ?_) (fun h61 => ?_)
  · refine J_bind fun x62 hx62 => ?_
    refine J_bind fun x63 hx63 => ?_
    refine J_bind fun x64 hx64 => ?_
    refine J_bind fun x65 hx65 => ?_
    refine J_bind fun x66 hx66 => ?_
    refine J_bind fun x67 hx67 => ?_
    refine J_bind fun x68 hx68 => ?_
    refine J_bind fun x69 hx69 => ?_
    exact J_some (fun h => j_icmp_f rfl (cc_ne_f h61) (j_aload_n rfl rfl (j_gfr rfl hx62 (j_iconst (0 : Int32) rfl k32_0 (j_ial rfl hx63 (j_aload_n rfl rfl (j_gfr rfl hx64 (j_iconst (1 : Int32) rfl k32_1 (j_ial rfl hx65 (j_iadd rfl (j_aload_n rfl rfl (j_gfr rfl hx66 (j_iconst (2 : Int32) rfl k32_2 (j_ial rfl hx67 (j_iadd rfl (j_aload_n rfl rfl (j_gfr rfl hx68 (j_iconst (3 : Int32) rfl k32_3 (j_ial rfl hx69 (j_iadd rfl (j_goto rfl (j_iret rfl rfl h))))))))))))))))))))))
  refine J_bind fun x70 hx70 => ?_
  exact J_some (fun h => j_icmp_t rfl (cc_ne_t h61) (j_aload_n rfl rfl (j_gfi rfl hx70 (j_iret rfl rfl h))))
theorem t_Mo_count {fo : Option Nat} {d : Nat} (hd : 7 ≤ d) {v0 : Nat} {v1 : Int32} {σ σ1 : q_H} {r : Int32} (h : f_Mo_count v0 v1 σ = some (r, σ1)) : q_Rel (q_rf fo) q_Ms d 278 [.ref v0, .int v1] σ (.inl (some (.int r))) σ1 := by
  obtain ⟨d, rfl⟩ : ∃ d1, d = d1 + 1 := ⟨d - 1, by omega⟩
  exact q_Rel.of rfl rfl (b_Mo_count hd _ _ σ _ _ h ⟨rfl, rfl⟩)

def f_Mo_move (v0 : Nat) (v1 : Int32) (v2 : Int32) (σ : q_H) : Option ((Int32) × q_H) := q_sq (f_Mo_within v2 (0 : Int32) (1 : Int32) σ) fun x2 σ1 => if x2 = (0 : Int32) then ((q_sf σ1 12 v0 0 (.int (1 : Int32))).bind fun σ4 => (q_gi (q_gf σ4 12 v0 0)).bind fun x5 => if x5 = (1 : Int32) then (some ((0 : Int32), σ4)) else ((q_gl' (q_gf σ4 12 v0 25)).bind fun x7 => (q_gl' (q_gf σ4 12 v0 26)).bind fun x8 => q_sq (f_Mo_lowest x7 x8 v2 σ4) fun x10 σ9 => some (x10.toInt32, σ9))) else ((q_ob σ1 12 v0).bind fun w11 => q_sq (f_Mo_moves v0 v1 σ1) fun x13 σ12 => q_sq (if x13 = (0 : Int32) then (some ((1 : Int32), σ12)) else (some ((0 : Int32), σ12))) fun (t15 : Int32) σ16 => (q_sf σ16 12 v0 0 (.int t15)).bind fun σ17 => (q_gi (q_gf σ17 12 v0 0)).bind fun x18 => if x18 = (1 : Int32) then (some ((0 : Int32), σ17)) else ((q_gl' (q_gf σ17 12 v0 25)).bind fun x20 => (q_gl' (q_gf σ17 12 v0 26)).bind fun x21 => q_sq (f_Mo_lowest x20 x21 v2 σ17) fun x23 σ22 => some (x23.toInt32, σ22)))
set_option maxRecDepth 100000 in
theorem b_Mo_move {fo : Option Nat} {d : Nat} (hd : 8 ≤ d + 1) {o : q_O} {σ' : q_H} (v0 : Nat) (v1 : Int32) (v2 : Int32) (σ : q_H) : q_J (fun (r : Int32) (σ1 : q_H) => o = .inl (some (.int r)) ∧ σ' = σ1) (f_Mo_move v0 v1 v2 σ) (q_G (q_rf fo) d m_Mo_move o σ' 0 [some (.ref v0), some (.int v1), some (.int v2)] [] σ) := by
  unfold f_Mo_move
  refine J_cl fun x2 σ1 hσ1 => ?_
  refine q_J.step (fun g => j_aload_n rfl rfl (j_iload_n rfl rfl (j_iconst (0 : Int32) rfl k32_0 (j_iconst (1 : Int32) rfl k32_1 (j_s1 [.int v2, .int (0 : Int32), .int (1 : Int32)] [.ref v0] rfl rfl rfl rfl rfl (t_Mo_within (by omega) hσ1) (g)))))) ?_
  refine J_ite (fun h3 => ?_) (fun h3 => ?_)
  · refine J_bind fun σ4 hσ4 => ?_
    refine J_bind fun x5 hx5 => ?_
    refine q_J.step (fun g => j_if_t rfl (cc_eq_t h3) (j_iconst (1 : Int32) rfl k32_1 (j_putf rfl rfl rfl rfl hσ4 (j_aload_n rfl rfl (j_gfi rfl hx5 (j_iconst (1 : Int32) rfl k32_1 (g))))))) ?_
    refine J_ite (fun h6 => ?_) (fun h6 => ?_)
    · exact J_some (fun h => j_icmp_f rfl (cc_ne_f h6) (j_iconst (0 : Int32) rfl k32_0 (j_goto rfl (j_iret rfl rfl h))))
    refine J_bind fun x7 hx7 => ?_
    refine J_bind fun x8 hx8 => ?_
    refine J_cl fun x10 σ9 hσ9 => ?_
    exact J_some (fun h => j_icmp_t rfl (cc_ne_t h6) (j_aload_n rfl rfl (j_gfl rfl hx7 (j_aload_n rfl rfl (j_gfl rfl hx8 (j_iload_n rfl rfl (j_s1 [.long x7, .long x8, .int v2] [] rfl rfl rfl rfl rfl (t_Mo_lowest (by omega) hσ9) (j_l2i rfl (j_iret rfl rfl h)))))))))
  refine J_bind fun w11 hw11 => ?_
  refine J_cl fun x13 σ12 hσ12 => ?_
  refine q_J.step (fun g => j_if_f rfl (cc_eq_f h3) (j_aload_n rfl rfl (j_iload_n rfl rfl (j_v1 [.ref v0, .int v1] [.ref v0] rfl rfl rfl rfl rfl rfl hw11 (Or.inl rfl) (t_Mo_moves (by omega) hσ12) (g))))) ?_
  refine J_sq (fun (t15 : Int32) (σ16 : q_H) => q_G (q_rf fo) d m_Mo_move o σ' 23 [some (.ref v0), none, some (.int v2)] [.int t15, .ref v0] σ16) ?_ (fun t15 σ16 => ?_)
  · refine J_ite (fun h14 => ?_) (fun h14 => ?_)
    · exact J_some (fun h => j_if_t rfl (cc_eq_t h14) (j_iconst (1 : Int32) rfl k32_1 (j_weak (l := [some (.ref v0), none, some (.int v2)]) (And.intro (Or.inr rfl) (And.intro (Or.inl rfl) (And.intro (Or.inr rfl) True.intro))) (h))))
    exact J_some (fun h => j_if_f rfl (cc_eq_f h14) (j_iconst (0 : Int32) rfl k32_0 (j_goto rfl (j_weak (l := [some (.ref v0), none, some (.int v2)]) (And.intro (Or.inr rfl) (And.intro (Or.inl rfl) (And.intro (Or.inr rfl) True.intro))) (h)))))
  refine J_bind fun σ17 hσ17 => ?_
  refine J_bind fun x18 hx18 => ?_
  refine q_J.step (fun g => j_putf rfl rfl rfl rfl hσ17 (j_aload_n rfl rfl (j_gfi rfl hx18 (j_iconst (1 : Int32) rfl k32_1 (g))))) ?_
  refine J_ite (fun h19 => ?_) (fun h19 => ?_)
  · exact J_some (fun h => j_icmp_f rfl (cc_ne_f h19) (j_iconst (0 : Int32) rfl k32_0 (j_goto rfl (j_iret rfl rfl h))))
  refine J_bind fun x20 hx20 => ?_
  refine J_bind fun x21 hx21 => ?_
  refine J_cl fun x23 σ22 hσ22 => ?_
  exact J_some (fun h => j_icmp_t rfl (cc_ne_t h19) (j_aload_n rfl rfl (j_gfl rfl hx20 (j_aload_n rfl rfl (j_gfl rfl hx21 (j_iload_n rfl rfl (j_s1 [.long x20, .long x21, .int v2] [] rfl rfl rfl rfl rfl (t_Mo_lowest (by omega) hσ22) (j_l2i rfl (j_iret rfl rfl h)))))))))
theorem t_Mo_move {fo : Option Nat} {d : Nat} (hd : 8 ≤ d) {v0 : Nat} {v1 : Int32} {v2 : Int32} {σ σ1 : q_H} {r : Int32} (h : f_Mo_move v0 v1 v2 σ = some (r, σ1)) : q_Rel (q_rf fo) q_Ms d 212 [.ref v0, .int v1, .int v2] σ (.inl (some (.int r))) σ1 := by
  obtain ⟨d, rfl⟩ : ∃ d1, d = d1 + 1 := ⟨d - 1, by omega⟩
  exact q_Rel.of rfl rfl (b_Mo_move hd _ _ _ σ _ _ h ⟨rfl, rfl⟩)

def f_Mo_mover_L15 (v0 : Nat) : Nat → Int32 → Int64 → Int64 → Int32 → q_H → Option ((Int32) × q_H)
  | 0, _, _, _, _, _ => none
  | n + 1, v1, v2, v4, v6, σ => if v6 < (24 : Int32) then ((q_ob σ 12 v0).bind fun w3 => q_sq (f_Mo_moves v0 v6 σ) fun x5 σ4 => if x5 = (0 : Int32) then (f_Mo_mover_L15 v0 n v1 v2 v4 (v6 + (1 : Int32)) σ4) else ((q_gl' (q_gf σ4 12 v0 25)).bind fun x7 => q_sq (if x7 < (0 : Int64) then ((q_gl' (q_gf σ4 12 v0 25)).bind fun x9 => some ((-x9), σ4)) else ((q_gl' (q_gf σ4 12 v0 25)).bind fun x10 => some (x10, σ4))) fun (t11 : Int64) σ12 => if v1 < (0 : Int32) then ((q_gl' (q_gf σ12 12 v0 26)).bind fun x14 => f_Mo_mover_L15 v0 n v6 t11 x14 (v6 + (1 : Int32)) σ12) else ((q_gl' (q_gf σ12 12 v0 26)).bind fun x15 => if (v2 * x15) < (t11 * v4) then ((q_gl' (q_gf σ12 12 v0 26)).bind fun x17 => f_Mo_mover_L15 v0 n v6 t11 x17 (v6 + (1 : Int32)) σ12) else (f_Mo_mover_L15 v0 n v1 v2 v4 (v6 + (1 : Int32)) σ12)))) else (some (v1, σ))
set_option maxRecDepth 100000 in
theorem l_Mo_mover_L15 {fo : Option Nat} {d : Nat} (hd : 8 ≤ d + 1) {o : q_O} {σ' : q_H} {E : (Int32) → q_H → Prop} (v0 : Nat) (hX : ∀ (t : Int32) σ1, E (t) σ1 → q_G (q_rf fo) d m_Mo_mover o σ' 97 [none, some (.int t), none, none, none, none, none, none, none] [] σ1)  : ∀ (n : Nat) (v1 : Int32) (v2 : Int64) (v4 : Int64) (v6 : Int32) (σ : q_H), q_J E (f_Mo_mover_L15 v0 n v1 v2 v4 v6 σ) (q_G (q_rf fo) d m_Mo_mover o σ' 15 [some (.ref v0), some (.int v1), some (.long v2), none, some (.long v4), none, some (.int v6), none, none] [] σ)
  | 0, v1, v2, v4, v6, σ => J_none
  | n + 1, v1, v2, v4, v6, σ => by
    unfold f_Mo_mover_L15
    refine q_J.step (fun g => j_iload rfl rfl (j_bipush (24 : Int32) rfl kb_24 (g))) ?_
    refine J_ite (fun h2 => ?_) (fun h2 => ?_)
    · refine J_bind fun w3 hw3 => ?_
      refine J_cl fun x5 σ4 hσ4 => ?_
      refine q_J.step (fun g => j_icmp_f rfl (cc_ge_f h2) (j_aload_n rfl rfl (j_iload rfl rfl (j_v1 [.ref v0, .int v6] [] rfl rfl rfl rfl rfl rfl hw3 (Or.inl rfl) (t_Mo_moves (by omega) hσ4) (g))))) ?_
      refine J_ite (fun h6 => ?_) (fun h6 => ?_)
      · exact q_J.step (fun g => j_if_f rfl (cc_ne_f h6) (j_goto rfl (j_iinc [some (.ref v0), some (.int v1), some (.long v2), none, some (.long v4), none, some (.int (v6 + (1 : Int32))), none, none] (v6 + (1 : Int32)) rfl rfl (by rw [k32_1]) (Or.inr True.intro) rfl (j_goto rfl (g))))) (l_Mo_mover_L15 hd v0 hX n v1 v2 v4 (v6 + (1 : Int32)) σ4)
      refine J_bind fun x7 hx7 => ?_
      refine q_J.step (fun g => j_if_t rfl (cc_ne_t h6) (j_aload_n rfl rfl (j_gfl rfl hx7 (j_lconst (0 : Int64) rfl kl_0 (j_lcmp rfl (g)))))) ?_
      refine J_sq (fun (t11 : Int64) (σ12 : q_H) => q_G (q_rf fo) d m_Mo_mover o σ' 55 [some (.ref v0), some (.int v1), some (.long v2), none, some (.long v4), none, some (.int v6), none, none] [.long t11] σ12) ?_ (fun t11 σ12 => ?_)
      · refine J_ite (fun h8 => ?_) (fun h8 => ?_)
        · refine J_bind fun x9 hx9 => ?_
          exact J_some (fun h => j_if_f rfl (lc_ge_f h8) (j_aload_n rfl rfl (j_gfl rfl hx9 (j_lneg rfl (j_goto rfl (h))))))
        refine J_bind fun x10 hx10 => ?_
        exact J_some (fun h => j_if_t rfl (lc_ge_t h8) (j_aload_n rfl rfl (j_gfl rfl hx10 (h))))
      refine q_J.step (fun g => j_lstore [some (.ref v0), some (.int v1), some (.long v2), none, some (.long v4), none, some (.int v6), some (.long t11), none] rfl rfl (Or.inr rfl) rfl (j_iload_n rfl rfl (g))) ?_
      refine J_ite (fun h13 => ?_) (fun h13 => ?_)
      · refine J_bind fun x14 hx14 => ?_
        exact q_J.step (fun g => j_if_t rfl (cc_lt_t h13) (j_iload rfl rfl (j_istore_n [some (.ref v0), some (.int v6), some (.long v2), none, some (.long v4), none, some (.int v6), some (.long t11), none] rfl rfl (Or.inr rfl) rfl (j_lload rfl rfl (j_lstore_n [some (.ref v0), some (.int v6), some (.long t11), none, some (.long v4), none, some (.int v6), some (.long t11), none] rfl rfl (Or.inr rfl) rfl (j_aload_n rfl rfl (j_gfl rfl hx14 (j_lstore [some (.ref v0), some (.int v6), some (.long t11), none, some (.long x14), none, some (.int v6), some (.long t11), none] rfl rfl (Or.inr True.intro) rfl (j_iinc [some (.ref v0), some (.int v6), some (.long t11), none, some (.long x14), none, some (.int (v6 + (1 : Int32))), some (.long t11), none] (v6 + (1 : Int32)) rfl rfl (by rw [k32_1]) (Or.inr True.intro) rfl (j_goto rfl (j_weak (l := [some (.ref v0), some (.int v6), some (.long t11), none, some (.long x14), none, some (.int (v6 + (1 : Int32))), none, none]) (And.intro (Or.inr rfl) (And.intro (Or.inr rfl) (And.intro (Or.inr rfl) (And.intro (Or.inr rfl) (And.intro (Or.inr rfl) (And.intro (Or.inr rfl) (And.intro (Or.inr rfl) (And.intro (Or.inl rfl) (And.intro (Or.inr rfl) True.intro))))))))) (g)))))))))))) (l_Mo_mover_L15 hd v0 hX n v6 t11 x14 (v6 + (1 : Int32)) σ12)
      refine J_bind fun x15 hx15 => ?_
      refine q_J.step (fun g => j_if_f rfl (cc_lt_f h13) (j_lload rfl rfl (j_lload rfl rfl (j_lmul rfl (j_lload_n rfl rfl (j_aload_n rfl rfl (j_gfl rfl hx15 (j_lmul rfl (j_lcmp rfl (g)))))))))) ?_
      refine J_ite (fun h16 => ?_) (fun h16 => ?_)
      · refine J_bind fun x17 hx17 => ?_
        exact q_J.step (fun g => j_if_t rfl (lc_gt_t h16) (j_iload rfl rfl (j_istore_n [some (.ref v0), some (.int v6), some (.long v2), none, some (.long v4), none, some (.int v6), some (.long t11), none] rfl rfl (Or.inr rfl) rfl (j_lload rfl rfl (j_lstore_n [some (.ref v0), some (.int v6), some (.long t11), none, some (.long v4), none, some (.int v6), some (.long t11), none] rfl rfl (Or.inr rfl) rfl (j_aload_n rfl rfl (j_gfl rfl hx17 (j_lstore [some (.ref v0), some (.int v6), some (.long t11), none, some (.long x17), none, some (.int v6), some (.long t11), none] rfl rfl (Or.inr True.intro) rfl (j_iinc [some (.ref v0), some (.int v6), some (.long t11), none, some (.long x17), none, some (.int (v6 + (1 : Int32))), some (.long t11), none] (v6 + (1 : Int32)) rfl rfl (by rw [k32_1]) (Or.inr True.intro) rfl (j_goto rfl (j_weak (l := [some (.ref v0), some (.int v6), some (.long t11), none, some (.long x17), none, some (.int (v6 + (1 : Int32))), none, none]) (And.intro (Or.inr rfl) (And.intro (Or.inr rfl) (And.intro (Or.inr rfl) (And.intro (Or.inr rfl) (And.intro (Or.inr rfl) (And.intro (Or.inr rfl) (And.intro (Or.inr rfl) (And.intro (Or.inl rfl) (And.intro (Or.inr rfl) True.intro))))))))) (g)))))))))))) (l_Mo_mover_L15 hd v0 hX n v6 t11 x17 (v6 + (1 : Int32)) σ12)
      exact q_J.step (fun g => j_if_f rfl (lc_gt_f h16) (j_goto rfl (j_iinc [some (.ref v0), some (.int v1), some (.long v2), none, some (.long v4), none, some (.int (v6 + (1 : Int32))), some (.long t11), none] (v6 + (1 : Int32)) rfl rfl (by rw [k32_1]) (Or.inr True.intro) rfl (j_goto rfl (j_weak (l := [some (.ref v0), some (.int v1), some (.long v2), none, some (.long v4), none, some (.int (v6 + (1 : Int32))), none, none]) (And.intro (Or.inr rfl) (And.intro (Or.inr rfl) (And.intro (Or.inr rfl) (And.intro (Or.inr rfl) (And.intro (Or.inr rfl) (And.intro (Or.inr rfl) (And.intro (Or.inr rfl) (And.intro (Or.inl rfl) (And.intro (Or.inr rfl) True.intro))))))))) (g)))))) (l_Mo_mover_L15 hd v0 hX n v1 v2 v4 (v6 + (1 : Int32)) σ12)
    exact J_some (fun h => j_icmp_t rfl (cc_ge_t h2) (j_weak (l := [none, some (.int v1), none, none, none, none, none, none, none]) (And.intro (Or.inl rfl) (And.intro (Or.inr rfl) (And.intro (Or.inl rfl) (And.intro (Or.inr rfl) (And.intro (Or.inl rfl) (And.intro (Or.inr rfl) (And.intro (Or.inl rfl) (And.intro (Or.inr rfl) (And.intro (Or.inr rfl) True.intro))))))))) (hX _ _ h)))

def f_Mo_mover (v0 : Nat) (σ : q_H) : Option ((Int32) × q_H) := (q_sf σ 12 v0 0 (.int (0 : Int32))).bind fun σ1 => q_sq (f_Mo_mover_L15 v0 q_FU (-1 : Int32) (0 : Int64) (1 : Int64) (0 : Int32) σ1) fun (t18 : Int32) σ19 => some (t18, σ19)
set_option maxRecDepth 100000 in
theorem b_Mo_mover {fo : Option Nat} {d : Nat} (hd : 8 ≤ d + 1) {o : q_O} {σ' : q_H} (v0 : Nat) (σ : q_H) : q_J (fun (r : Int32) (σ1 : q_H) => o = .inl (some (.int r)) ∧ σ' = σ1) (f_Mo_mover v0 σ) (q_G (q_rf fo) d m_Mo_mover o σ' 0 [some (.ref v0), none, none, none, none, none, none, none, none] [] σ) := by
  unfold f_Mo_mover
  refine J_bind fun σ1 hσ1 => ?_
  refine J_sq (fun (t18 : Int32) (σ19 : q_H) => q_G (q_rf fo) d m_Mo_mover o σ' 97 [none, some (.int t18), none, none, none, none, none, none, none] [] σ19) (q_J.step (fun g => j_aload_n rfl rfl (j_iconst (0 : Int32) rfl k32_0 (j_putf rfl rfl rfl rfl hσ1 (j_iconst (-1 : Int32) rfl k32_m1 (j_istore_n [some (.ref v0), some (.int (-1 : Int32)), none, none, none, none, none, none, none] rfl rfl (Or.inr rfl) rfl (j_lconst (0 : Int64) rfl kl_0 (j_lstore_n [some (.ref v0), some (.int (-1 : Int32)), some (.long (0 : Int64)), none, none, none, none, none, none] rfl rfl (Or.inr rfl) rfl (j_lconst (1 : Int64) rfl kl_1 (j_lstore [some (.ref v0), some (.int (-1 : Int32)), some (.long (0 : Int64)), none, some (.long (1 : Int64)), none, none, none, none] rfl rfl (Or.inr True.intro) rfl (j_iconst (0 : Int32) rfl k32_0 (j_istore [some (.ref v0), some (.int (-1 : Int32)), some (.long (0 : Int64)), none, some (.long (1 : Int64)), none, some (.int (0 : Int32)), none, none] rfl rfl (Or.inr True.intro) rfl (g)))))))))))) (l_Mo_mover_L15 hd v0 (fun _ _ h => h) q_FU (-1 : Int32) (0 : Int64) (1 : Int64) (0 : Int32) σ1)) (fun t18 σ19 => ?_)
  exact J_some (fun h => j_iload_n rfl rfl (j_iret rfl rfl h))
theorem t_Mo_mover {fo : Option Nat} {d : Nat} (hd : 8 ≤ d) {v0 : Nat} {σ σ1 : q_H} {r : Int32} (h : f_Mo_mover v0 σ = some (r, σ1)) : q_Rel (q_rf fo) q_Ms d 214 [.ref v0] σ (.inl (some (.int r))) σ1 := by
  obtain ⟨d, rfl⟩ : ∃ d1, d = d1 + 1 := ⟨d - 1, by omega⟩
  exact q_Rel.of rfl rfl (b_Mo_mover hd _ σ _ _ h ⟨rfl, rfl⟩)

def f_Mo_leftAll_L9 (v0 : Nat) (v1 : Int32) (v2 : Int32) : Nat → Int32 → Int32 → q_H → Option ((Int32) × q_H)
  | 0, _, _, _ => none
  | n + 1, v3, v4, σ => if v4 < (24 : Int32) then ((q_ob σ 12 v0).bind fun w5 => q_sq (f_Mo_isThere v0 v4 σ) fun x7 σ6 => if x7 = (0 : Int32) then (f_Mo_leftAll_L9 v0 v1 v2 n (v3 + (0 : Int32)) (v4 + (1 : Int32)) σ6) else ((q_ob σ6 12 v0).bind fun w9 => q_sq (f_Mo_leftIn v0 v4 v1 v2 σ6) fun x11 σ10 => f_Mo_leftAll_L9 v0 v1 v2 n (v3 + x11) (v4 + (1 : Int32)) σ10)) else (some (v3, σ))
set_option maxRecDepth 100000 in
theorem l_Mo_leftAll_L9 {fo : Option Nat} {d : Nat} (hd : 8 ≤ d + 1) {o : q_O} {σ' : q_H} {E : (Int32) → q_H → Prop} (v0 : Nat) (v1 : Int32) (v2 : Int32) (hX : ∀ (t : Int32) σ1, E (t) σ1 → q_G (q_rf fo) d m_Mo_leftAll o σ' 46 [none, none, none, some (.int t), none] [] σ1)  : ∀ (n : Nat) (v3 : Int32) (v4 : Int32) (σ : q_H), q_J E (f_Mo_leftAll_L9 v0 v1 v2 n v3 v4 σ) (q_G (q_rf fo) d m_Mo_leftAll o σ' 9 [some (.ref v0), some (.int v1), some (.int v2), some (.int v3), some (.int v4)] [] σ)
  | 0, v3, v4, σ => J_none
  | n + 1, v3, v4, σ => by
    unfold f_Mo_leftAll_L9
    refine q_J.step (fun g => j_iload rfl rfl (j_bipush (24 : Int32) rfl kb_24 (g))) ?_
    refine J_ite (fun h4 => ?_) (fun h4 => ?_)
    · refine J_bind fun w5 hw5 => ?_
      refine J_cl fun x7 σ6 hσ6 => ?_
      refine q_J.step (fun g => j_icmp_f rfl (cc_ge_f h4) (j_iload_n rfl rfl (j_aload_n rfl rfl (j_iload rfl rfl (j_v1 [.ref v0, .int v4] [.int v3] rfl rfl rfl rfl rfl rfl hw5 (Or.inl rfl) (t_Mo_isThere (by omega) hσ6) (g)))))) ?_
      refine J_ite (fun h8 => ?_) (fun h8 => ?_)
      · exact q_J.step (fun g => j_if_t rfl (cc_eq_t h8) (j_iconst (0 : Int32) rfl k32_0 (j_iadd rfl (j_istore_n [some (.ref v0), some (.int v1), some (.int v2), some (.int (v3 + (0 : Int32))), some (.int v4)] rfl rfl (Or.inr rfl) rfl (j_iinc [some (.ref v0), some (.int v1), some (.int v2), some (.int (v3 + (0 : Int32))), some (.int (v4 + (1 : Int32)))] (v4 + (1 : Int32)) rfl rfl (by rw [k32_1]) (Or.inr rfl) rfl (j_goto rfl (g))))))) (l_Mo_leftAll_L9 hd v0 v1 v2 hX n (v3 + (0 : Int32)) (v4 + (1 : Int32)) σ6)
      refine J_bind fun w9 hw9 => ?_
      refine J_cl fun x11 σ10 hσ10 => ?_
      exact q_J.step (fun g => j_if_f rfl (cc_eq_f h8) (j_aload_n rfl rfl (j_iload rfl rfl (j_iload_n rfl rfl (j_iload_n rfl rfl (j_v1 [.ref v0, .int v4, .int v1, .int v2] [.int v3] rfl rfl rfl rfl rfl rfl hw9 (Or.inl rfl) (t_Mo_leftIn (by omega) hσ10) (j_goto rfl (j_iadd rfl (j_istore_n [some (.ref v0), some (.int v1), some (.int v2), some (.int (v3 + x11)), some (.int v4)] rfl rfl (Or.inr rfl) rfl (j_iinc [some (.ref v0), some (.int v1), some (.int v2), some (.int (v3 + x11)), some (.int (v4 + (1 : Int32)))] (v4 + (1 : Int32)) rfl rfl (by rw [k32_1]) (Or.inr rfl) rfl (j_goto rfl (g)))))))))))) (l_Mo_leftAll_L9 hd v0 v1 v2 hX n (v3 + x11) (v4 + (1 : Int32)) σ10)
    exact J_some (fun h => j_icmp_t rfl (cc_ge_t h4) (j_weak (l := [none, none, none, some (.int v3), none]) (And.intro (Or.inl rfl) (And.intro (Or.inl rfl) (And.intro (Or.inl rfl) (And.intro (Or.inr rfl) (And.intro (Or.inl rfl) True.intro))))) (hX _ _ h)))

def f_Mo_leftAll (v0 : Nat) (v1 : Int32) (v2 : Int32) (σ : q_H) : Option ((Int32) × q_H) := (q_ob σ 12 v0).bind fun w1 => q_sq (f_Mo_houses v0 σ) fun (_ : Unit) σ2 => q_sq (f_Mo_leftAll_L9 v0 v1 v2 q_FU (0 : Int32) (0 : Int32) σ2) fun (t12 : Int32) σ13 => some (t12, σ13)
set_option maxRecDepth 100000 in
theorem b_Mo_leftAll {fo : Option Nat} {d : Nat} (hd : 8 ≤ d + 1) {o : q_O} {σ' : q_H} (v0 : Nat) (v1 : Int32) (v2 : Int32) (σ : q_H) : q_J (fun (r : Int32) (σ1 : q_H) => o = .inl (some (.int r)) ∧ σ' = σ1) (f_Mo_leftAll v0 v1 v2 σ) (q_G (q_rf fo) d m_Mo_leftAll o σ' 0 [some (.ref v0), some (.int v1), some (.int v2), none, none] [] σ) := by
  unfold f_Mo_leftAll
  refine J_bind fun w1 hw1 => ?_
  refine J_cl fun _ σ2 hσ2 => ?_
  refine J_sq (fun (t12 : Int32) (σ13 : q_H) => q_G (q_rf fo) d m_Mo_leftAll o σ' 46 [none, none, none, some (.int t12), none] [] σ13) (q_J.step (fun g => j_aload_n rfl rfl (j_v0 [.ref v0] [] rfl rfl rfl rfl rfl rfl hw1 (Or.inl rfl) (t_Mo_houses (by omega) hσ2) (j_iconst (0 : Int32) rfl k32_0 (j_istore_n [some (.ref v0), some (.int v1), some (.int v2), some (.int (0 : Int32)), none] rfl rfl (Or.inr rfl) rfl (j_iconst (0 : Int32) rfl k32_0 (j_istore [some (.ref v0), some (.int v1), some (.int v2), some (.int (0 : Int32)), some (.int (0 : Int32))] rfl rfl (Or.inr rfl) rfl (g))))))) (l_Mo_leftAll_L9 hd v0 v1 v2 (fun _ _ h => h) q_FU (0 : Int32) (0 : Int32) σ2)) (fun t12 σ13 => ?_)
  exact J_some (fun h => j_iload_n rfl rfl (j_iret rfl rfl h))
theorem t_Mo_leftAll {fo : Option Nat} {d : Nat} (hd : 8 ≤ d) {v0 : Nat} {v1 : Int32} {v2 : Int32} {σ σ1 : q_H} {r : Int32} (h : f_Mo_leftAll v0 v1 v2 σ = some (r, σ1)) : q_Rel (q_rf fo) q_Ms d 229 [.ref v0, .int v1, .int v2] σ (.inl (some (.int r))) σ1 := by
  obtain ⟨d, rfl⟩ : ∃ d1, d = d1 + 1 := ⟨d - 1, by omega⟩
  exact q_Rel.of rfl rfl (b_Mo_leftAll hd _ _ _ σ _ _ h ⟨rfl, rfl⟩)

def f_Mo_readings_L51 (v0 : Nat) (v1 : Int32) : Nat → Int32 → Int32 → q_H → Option ((Int32) × q_H)
  | 0, _, _, _ => none
  | n + 1, v2, v3, σ => (q_gi (q_gf σ 12 v0 58)).bind fun x15 => if v3 < x15 then (if v1 < (4 : Int32) then ((q_ob σ 12 v0).bind fun w18 => q_sq (f_Mo_isLess v0 v3 v2 σ) fun x20 σ19 => if x20 = (0 : Int32) then (f_Mo_readings_L51 v0 v1 n v2 (v3 + (1 : Int32)) σ19) else (f_Mo_readings_L51 v0 v1 n v3 (v3 + (1 : Int32)) σ19)) else ((q_ob σ 12 v0).bind fun w22 => q_sq (f_Mo_isLess v0 v2 v3 σ) fun x24 σ23 => if x24 = (0 : Int32) then (f_Mo_readings_L51 v0 v1 n v2 (v3 + (1 : Int32)) σ23) else (f_Mo_readings_L51 v0 v1 n v3 (v3 + (1 : Int32)) σ23))) else (some (v2, σ))
set_option maxRecDepth 100000 in
theorem l_Mo_readings_L51 {fo : Option Nat} {d : Nat} (hd : 8 ≤ d + 1) {o : q_O} {σ' : q_H} {E : (Int32) → q_H → Prop} (v0 : Nat) (v1 : Int32) (hX : ∀ (t : Int32) σ1, E (t) σ1 → q_G (q_rf fo) d m_Mo_readings o σ' 102 [some (.ref v0), some (.int v1), some (.int t), none] [] σ1)  : ∀ (n : Nat) (v2 : Int32) (v3 : Int32) (σ : q_H), q_J E (f_Mo_readings_L51 v0 v1 n v2 v3 σ) (q_G (q_rf fo) d m_Mo_readings o σ' 51 [some (.ref v0), some (.int v1), some (.int v2), some (.int v3)] [] σ)
  | 0, v2, v3, σ => J_none
  | n + 1, v2, v3, σ => by
    unfold f_Mo_readings_L51
    refine J_bind fun x15 hx15 => ?_
    refine q_J.step (fun g => j_iload_n rfl rfl (j_aload_n rfl rfl (j_gfi rfl hx15 (g)))) ?_
    refine J_ite (fun h16 => ?_) (fun h16 => ?_)
    · refine q_J.step (fun g => j_icmp_f rfl (cc_ge_f h16) (j_iload_n rfl rfl (j_iconst (4 : Int32) rfl k32_4 (g)))) ?_
      refine J_ite (fun h17 => ?_) (fun h17 => ?_)
      · refine J_bind fun w18 hw18 => ?_
        refine J_cl fun x20 σ19 hσ19 => ?_
        refine q_J.step (fun g => j_icmp_f rfl (cc_ge_f h17) (j_aload_n rfl rfl (j_iload_n rfl rfl (j_iload_n rfl rfl (j_v1 [.ref v0, .int v3, .int v2] [] rfl rfl rfl rfl rfl rfl hw18 (Or.inl rfl) (t_Mo_isLess (by omega) hσ19) (g)))))) ?_
        refine J_ite (fun h21 => ?_) (fun h21 => ?_)
        · exact q_J.step (fun g => j_if_t rfl (cc_eq_t h21) (j_iload_n rfl rfl (j_goto rfl (j_istore_n [some (.ref v0), some (.int v1), some (.int v2), some (.int v3)] rfl rfl (Or.inr rfl) rfl (j_iinc [some (.ref v0), some (.int v1), some (.int v2), some (.int (v3 + (1 : Int32)))] (v3 + (1 : Int32)) rfl rfl (by rw [k32_1]) (Or.inr rfl) rfl (j_goto rfl (g))))))) (l_Mo_readings_L51 hd v0 v1 hX n v2 (v3 + (1 : Int32)) σ19)
        exact q_J.step (fun g => j_if_f rfl (cc_eq_f h21) (j_iload_n rfl rfl (j_goto rfl (j_istore_n [some (.ref v0), some (.int v1), some (.int v3), some (.int v3)] rfl rfl (Or.inr rfl) rfl (j_iinc [some (.ref v0), some (.int v1), some (.int v3), some (.int (v3 + (1 : Int32)))] (v3 + (1 : Int32)) rfl rfl (by rw [k32_1]) (Or.inr rfl) rfl (j_goto rfl (g))))))) (l_Mo_readings_L51 hd v0 v1 hX n v3 (v3 + (1 : Int32)) σ19)
      refine J_bind fun w22 hw22 => ?_
      refine J_cl fun x24 σ23 hσ23 => ?_
      refine q_J.step (fun g => j_icmp_t rfl (cc_ge_t h17) (j_aload_n rfl rfl (j_iload_n rfl rfl (j_iload_n rfl rfl (j_v1 [.ref v0, .int v2, .int v3] [] rfl rfl rfl rfl rfl rfl hw22 (Or.inl rfl) (t_Mo_isLess (by omega) hσ23) (g)))))) ?_
      refine J_ite (fun h25 => ?_) (fun h25 => ?_)
      · exact q_J.step (fun g => j_if_t rfl (cc_eq_t h25) (j_iload_n rfl rfl (j_istore_n [some (.ref v0), some (.int v1), some (.int v2), some (.int v3)] rfl rfl (Or.inr rfl) rfl (j_iinc [some (.ref v0), some (.int v1), some (.int v2), some (.int (v3 + (1 : Int32)))] (v3 + (1 : Int32)) rfl rfl (by rw [k32_1]) (Or.inr rfl) rfl (j_goto rfl (g)))))) (l_Mo_readings_L51 hd v0 v1 hX n v2 (v3 + (1 : Int32)) σ23)
      exact q_J.step (fun g => j_if_f rfl (cc_eq_f h25) (j_iload_n rfl rfl (j_goto rfl (j_istore_n [some (.ref v0), some (.int v1), some (.int v3), some (.int v3)] rfl rfl (Or.inr rfl) rfl (j_iinc [some (.ref v0), some (.int v1), some (.int v3), some (.int (v3 + (1 : Int32)))] (v3 + (1 : Int32)) rfl rfl (by rw [k32_1]) (Or.inr rfl) rfl (j_goto rfl (g))))))) (l_Mo_readings_L51 hd v0 v1 hX n v3 (v3 + (1 : Int32)) σ23)
    exact J_some (fun h => j_icmp_t rfl (cc_ge_t h16) (j_weak (l := [some (.ref v0), some (.int v1), some (.int v2), none]) (And.intro (Or.inr rfl) (And.intro (Or.inr rfl) (And.intro (Or.inr rfl) (And.intro (Or.inl rfl) True.intro)))) (hX _ _ h)))

def f_Mo_readings (v0 : Nat) (v1 : Int32) (σ : q_H) : Option ((Int32) × q_H) := (q_sf σ 12 v0 0 (.int (0 : Int32))).bind fun σ1 => q_sq (f_Mo_within v1 (0 : Int32) (6 : Int32) σ1) fun x3 σ2 => if x3 = (0 : Int32) then (some ((-1 : Int32), σ2)) else ((q_ob σ2 12 v0).bind fun w5 => q_sq (f_Mo_lays v0 σ2) fun (_ : Unit) σ6 => if v1 = (0 : Int32) then (if v1 = (0 : Int32) then ((q_gi (q_gf σ6 12 v0 58)).bind fun x10 => some (((0 : Int32) + x10), σ6)) else (some ((-1 : Int32), σ6))) else ((q_gi (q_gf σ6 12 v0 58)).bind fun x11 => if x11 = (0 : Int32) then (if v1 = (0 : Int32) then ((q_gi (q_gf σ6 12 v0 58)).bind fun x14 => some (((0 : Int32) + x14), σ6)) else (some ((-1 : Int32), σ6))) else (q_sq (f_Mo_readings_L51 v0 v1 q_FU (0 : Int32) (1 : Int32) σ6) fun (t26 : Int32) σ27 => if (v1 - v1 / (3 : Int32) * (3 : Int32)) = (0 : Int32) then (some (t26, σ27)) else ((q_gr (q_gf σ27 12 v0 59)).bind fun x29 => (q_gi (q_ga σ27 20 x29 t26)).bind fun x30 => (q_gr (q_gf σ27 12 v0 60)).bind fun x31 => (q_gi (q_ga σ27 20 x31 t26)).bind fun x32 => q_sq (f_Mo_lowest x30.toInt64 x32.toInt64 ((v1 - (1 : Int32)) - (v1 - (1 : Int32)) / (3 : Int32) * (3 : Int32)) σ27) fun x34 σ33 => some (x34.toInt32, σ33)))))
set_option maxRecDepth 100000 in
theorem b_Mo_readings {fo : Option Nat} {d : Nat} (hd : 8 ≤ d + 1) {o : q_O} {σ' : q_H} (v0 : Nat) (v1 : Int32) (σ : q_H) : q_J (fun (r : Int32) (σ1 : q_H) => o = .inl (some (.int r)) ∧ σ' = σ1) (f_Mo_readings v0 v1 σ) (q_G (q_rf fo) d m_Mo_readings o σ' 0 [some (.ref v0), some (.int v1), none, none] [] σ) := by
  unfold f_Mo_readings
  refine J_bind fun σ1 hσ1 => ?_
  refine J_cl fun x3 σ2 hσ2 => ?_
  refine q_J.step (fun g => j_aload_n rfl rfl (j_iconst (0 : Int32) rfl k32_0 (j_putf rfl rfl rfl rfl hσ1 (j_iload_n rfl rfl (j_iconst (0 : Int32) rfl k32_0 (j_bipush (6 : Int32) rfl kb_6 (j_s1 [.int v1, .int (0 : Int32), .int (6 : Int32)] [] rfl rfl rfl rfl rfl (t_Mo_within (by omega) hσ2) (g)))))))) ?_
  refine J_ite (fun h4 => ?_) (fun h4 => ?_)
  · exact J_some (fun h => j_if_f rfl (cc_ne_f h4) (j_iconst (-1 : Int32) rfl k32_m1 (j_iret rfl rfl h)))
  refine J_bind fun w5 hw5 => ?_
  refine J_cl fun _ σ6 hσ6 => ?_
  refine q_J.step (fun g => j_if_t rfl (cc_ne_t h4) (j_aload_n rfl rfl (j_v0 [.ref v0] [] rfl rfl rfl rfl rfl rfl hw5 (Or.inl rfl) (t_Mo_lays (by omega) hσ6) (j_iload_n rfl rfl (g))))) ?_
  refine J_ite (fun h8 => ?_) (fun h8 => ?_)
  · refine q_J.step (fun g => j_if_t rfl (cc_eq_t h8) (j_iload_n rfl rfl (g))) ?_
    refine J_ite (fun h9 => ?_) (fun h9 => ?_)
    · refine J_bind fun x10 hx10 => ?_
      exact J_some (fun h => j_if_f rfl (cc_ne_f h9) (j_iconst (0 : Int32) rfl k32_0 (j_aload_n rfl rfl (j_gfi rfl hx10 (j_iadd rfl (j_goto rfl (j_iret rfl rfl h)))))))
    exact J_some (fun h => j_if_t rfl (cc_ne_t h9) (j_iconst (-1 : Int32) rfl k32_m1 (j_iret rfl rfl h)))
  refine J_bind fun x11 hx11 => ?_
  refine q_J.step (fun g => j_if_f rfl (cc_eq_f h8) (j_aload_n rfl rfl (j_gfi rfl hx11 (g)))) ?_
  refine J_ite (fun h12 => ?_) (fun h12 => ?_)
  · refine q_J.step (fun g => j_if_f rfl (cc_ne_f h12) (j_iload_n rfl rfl (g))) ?_
    refine J_ite (fun h13 => ?_) (fun h13 => ?_)
    · refine J_bind fun x14 hx14 => ?_
      exact J_some (fun h => j_if_f rfl (cc_ne_f h13) (j_iconst (0 : Int32) rfl k32_0 (j_aload_n rfl rfl (j_gfi rfl hx14 (j_iadd rfl (j_goto rfl (j_iret rfl rfl h)))))))
    exact J_some (fun h => j_if_t rfl (cc_ne_t h13) (j_iconst (-1 : Int32) rfl k32_m1 (j_iret rfl rfl h)))
  refine J_sq (fun (t26 : Int32) (σ27 : q_H) => q_G (q_rf fo) d m_Mo_readings o σ' 102 [some (.ref v0), some (.int v1), some (.int t26), none] [] σ27) (q_J.step (fun g => j_if_t rfl (cc_ne_t h12) (j_iconst (0 : Int32) rfl k32_0 (j_istore_n [some (.ref v0), some (.int v1), some (.int (0 : Int32)), none] rfl rfl (Or.inr rfl) rfl (j_iconst (1 : Int32) rfl k32_1 (j_istore_n [some (.ref v0), some (.int v1), some (.int (0 : Int32)), some (.int (1 : Int32))] rfl rfl (Or.inr rfl) rfl (g)))))) (l_Mo_readings_L51 hd v0 v1 (fun _ _ h => h) q_FU (0 : Int32) (1 : Int32) σ6)) (fun t26 σ27 => ?_)
  refine q_J.step (fun g => j_iload_n rfl rfl (j_iconst (3 : Int32) rfl k32_3 (j_irem rfl (by decide) (g)))) ?_
  refine J_ite (fun h28 => ?_) (fun h28 => ?_)
  · exact J_some (fun h => j_if_f rfl (cc_ne_f h28) (j_iload_n rfl rfl (j_goto rfl (j_iret rfl rfl h))))
  refine J_bind fun x29 hx29 => ?_
  refine J_bind fun x30 hx30 => ?_
  refine J_bind fun x31 hx31 => ?_
  refine J_bind fun x32 hx32 => ?_
  refine J_cl fun x34 σ33 hσ33 => ?_
  exact J_some (fun h => j_if_t rfl (cc_ne_t h28) (j_aload_n rfl rfl (j_gfr rfl hx29 (j_iload_n rfl rfl (j_ial rfl hx30 (j_i2l rfl (j_aload_n rfl rfl (j_gfr rfl hx31 (j_iload_n rfl rfl (j_ial rfl hx32 (j_i2l rfl (j_iload_n rfl rfl (j_iconst (1 : Int32) rfl k32_1 (j_isub rfl (j_iconst (3 : Int32) rfl k32_3 (j_irem rfl (by decide) (j_s1 [.long x30.toInt64, .long x32.toInt64, .int ((v1 - (1 : Int32)) - (v1 - (1 : Int32)) / (3 : Int32) * (3 : Int32))] [] rfl rfl rfl rfl rfl (t_Mo_lowest (by omega) hσ33) (j_l2i rfl (j_iret rfl rfl h)))))))))))))))))))
theorem t_Mo_readings {fo : Option Nat} {d : Nat} (hd : 8 ≤ d) {v0 : Nat} {v1 : Int32} {σ σ1 : q_H} {r : Int32} (h : f_Mo_readings v0 v1 σ = some (r, σ1)) : q_Rel (q_rf fo) q_Ms d 269 [.ref v0, .int v1] σ (.inl (some (.int r))) σ1 := by
  obtain ⟨d, rfl⟩ : ∃ d1, d = d1 + 1 := ⟨d - 1, by omega⟩
  exact q_Rel.of rfl rfl (b_Mo_readings hd _ _ σ _ _ h ⟨rfl, rfl⟩)

def f_Mo_reading (v0 : Nat) (v1 : Int32) (v2 : Int32) (σ : q_H) : Option ((Int32) × q_H) := (q_sf σ 12 v0 0 (.int (0 : Int32))).bind fun σ1 => (q_ob σ1 12 v0).bind fun w2 => q_sq (f_Mo_lays v0 σ1) fun (_ : Unit) σ3 => if v1 < (0 : Int32) then (some ((-1 : Int32), σ3)) else ((q_gi (q_gf σ3 12 v0 58)).bind fun x6 => if v1 < x6 then (q_sq (f_Mo_within v2 (0 : Int32) (1 : Int32) σ3) fun x9 σ8 => if x9 = (0 : Int32) then (some ((-1 : Int32), σ8)) else ((q_gr (q_gf σ8 12 v0 59)).bind fun x11 => (q_gi (q_ga σ8 20 x11 v1)).bind fun x12 => (q_gr (q_gf σ8 12 v0 60)).bind fun x13 => (q_gi (q_ga σ8 20 x13 v1)).bind fun x14 => q_sq (f_Mo_lowest x12.toInt64 x14.toInt64 v2 σ8) fun x16 σ15 => some (x16.toInt32, σ15))) else (some ((-1 : Int32), σ3)))
set_option maxRecDepth 100000 in
theorem b_Mo_reading {fo : Option Nat} {d : Nat} (hd : 8 ≤ d + 1) {o : q_O} {σ' : q_H} (v0 : Nat) (v1 : Int32) (v2 : Int32) (σ : q_H) : q_J (fun (r : Int32) (σ1 : q_H) => o = .inl (some (.int r)) ∧ σ' = σ1) (f_Mo_reading v0 v1 v2 σ) (q_G (q_rf fo) d m_Mo_reading o σ' 0 [some (.ref v0), some (.int v1), some (.int v2)] [] σ) := by
  unfold f_Mo_reading
  refine J_bind fun σ1 hσ1 => ?_
  refine J_bind fun w2 hw2 => ?_
  refine J_cl fun _ σ3 hσ3 => ?_
  refine q_J.step (fun g => j_aload_n rfl rfl (j_iconst (0 : Int32) rfl k32_0 (j_putf rfl rfl rfl rfl hσ1 (j_aload_n rfl rfl (j_v0 [.ref v0] [] rfl rfl rfl rfl rfl rfl hw2 (Or.inl rfl) (t_Mo_lays (by omega) hσ3) (j_iload_n rfl rfl (g))))))) ?_
  refine J_ite (fun h5 => ?_) (fun h5 => ?_)
  · exact J_some (fun h => j_if_t rfl (cc_lt_t h5) (j_iconst (-1 : Int32) rfl k32_m1 (j_goto rfl (j_iret rfl rfl h))))
  refine J_bind fun x6 hx6 => ?_
  refine q_J.step (fun g => j_if_f rfl (cc_lt_f h5) (j_iload_n rfl rfl (j_aload_n rfl rfl (j_gfi rfl hx6 (g))))) ?_
  refine J_ite (fun h7 => ?_) (fun h7 => ?_)
  · refine J_cl fun x9 σ8 hσ8 => ?_
    refine q_J.step (fun g => j_icmp_f rfl (cc_ge_f h7) (j_iload_n rfl rfl (j_iconst (0 : Int32) rfl k32_0 (j_iconst (1 : Int32) rfl k32_1 (j_s1 [.int v2, .int (0 : Int32), .int (1 : Int32)] [] rfl rfl rfl rfl rfl (t_Mo_within (by omega) hσ8) (g)))))) ?_
    refine J_ite (fun h10 => ?_) (fun h10 => ?_)
    · exact J_some (fun h => j_if_f rfl (cc_ne_f h10) (j_iconst (-1 : Int32) rfl k32_m1 (j_goto rfl (j_iret rfl rfl h))))
    refine J_bind fun x11 hx11 => ?_
    refine J_bind fun x12 hx12 => ?_
    refine J_bind fun x13 hx13 => ?_
    refine J_bind fun x14 hx14 => ?_
    refine J_cl fun x16 σ15 hσ15 => ?_
    exact J_some (fun h => j_if_t rfl (cc_ne_t h10) (j_aload_n rfl rfl (j_gfr rfl hx11 (j_iload_n rfl rfl (j_ial rfl hx12 (j_i2l rfl (j_aload_n rfl rfl (j_gfr rfl hx13 (j_iload_n rfl rfl (j_ial rfl hx14 (j_i2l rfl (j_iload_n rfl rfl (j_s1 [.long x12.toInt64, .long x14.toInt64, .int v2] [] rfl rfl rfl rfl rfl (t_Mo_lowest (by omega) hσ15) (j_l2i rfl (j_iret rfl rfl h)))))))))))))))
  exact J_some (fun h => j_icmp_t rfl (cc_ge_t h7) (j_iconst (-1 : Int32) rfl k32_m1 (j_goto rfl (j_iret rfl rfl h))))
theorem t_Mo_reading {fo : Option Nat} {d : Nat} (hd : 8 ≤ d) {v0 : Nat} {v1 : Int32} {v2 : Int32} {σ σ1 : q_H} {r : Int32} (h : f_Mo_reading v0 v1 v2 σ = some (r, σ1)) : q_Rel (q_rf fo) q_Ms d 272 [.ref v0, .int v1, .int v2] σ (.inl (some (.int r))) σ1 := by
  obtain ⟨d, rfl⟩ : ∃ d1, d = d1 + 1 := ⟨d - 1, by omega⟩
  exact q_Rel.of rfl rfl (b_Mo_reading hd _ _ _ σ _ _ h ⟨rfl, rfl⟩)

def f_Mo_says_L43 (v0 : Nat) (v1 : Int32) (v2 : Int32) : Nat → Int32 → Int32 → q_H → Option ((Int32) × q_H)
  | 0, _, _, _ => none
  | n + 1, v3, v4, σ => (q_gi (q_gf σ 12 v0 58)).bind fun x13 => if v4 < x13 then ((q_gr (q_gf σ 12 v0 59)).bind fun x15 => (q_gi (q_ga σ 20 x15 v4)).bind fun x16 => (q_gr (q_gf σ 12 v0 60)).bind fun x17 => (q_gi (q_ga σ 20 x17 v4)).bind fun x18 => if (x16 * v2) < (v1 * x18) then (f_Mo_says_L43 v0 v1 v2 n (v3 + (0 : Int32)) (v4 + (1 : Int32)) σ) else (f_Mo_says_L43 v0 v1 v2 n (v3 + (1 : Int32)) (v4 + (1 : Int32)) σ)) else (some (v3, σ))
set_option maxRecDepth 100000 in
theorem l_Mo_says_L43 {fo : Option Nat} {d : Nat} (hd : 8 ≤ d + 1) {o : q_O} {σ' : q_H} {E : (Int32) → q_H → Prop} (v0 : Nat) (v1 : Int32) (v2 : Int32) (hX : ∀ (t : Int32) σ1, E (t) σ1 → q_G (q_rf fo) d m_Mo_says o σ' 87 [some (.ref v0), none, none, some (.int t), none] [] σ1)  : ∀ (n : Nat) (v3 : Int32) (v4 : Int32) (σ : q_H), q_J E (f_Mo_says_L43 v0 v1 v2 n v3 v4 σ) (q_G (q_rf fo) d m_Mo_says o σ' 43 [some (.ref v0), some (.int v1), some (.int v2), some (.int v3), some (.int v4)] [] σ)
  | 0, v3, v4, σ => J_none
  | n + 1, v3, v4, σ => by
    unfold f_Mo_says_L43
    refine J_bind fun x13 hx13 => ?_
    refine q_J.step (fun g => j_iload rfl rfl (j_aload_n rfl rfl (j_gfi rfl hx13 (g)))) ?_
    refine J_ite (fun h14 => ?_) (fun h14 => ?_)
    · refine J_bind fun x15 hx15 => ?_
      refine J_bind fun x16 hx16 => ?_
      refine J_bind fun x17 hx17 => ?_
      refine J_bind fun x18 hx18 => ?_
      refine q_J.step (fun g => j_icmp_f rfl (cc_ge_f h14) (j_iload_n rfl rfl (j_aload_n rfl rfl (j_gfr rfl hx15 (j_iload rfl rfl (j_ial rfl hx16 (j_iload_n rfl rfl (j_imul rfl (j_iload_n rfl rfl (j_aload_n rfl rfl (j_gfr rfl hx17 (j_iload rfl rfl (j_ial rfl hx18 (j_imul rfl (g))))))))))))))) ?_
      refine J_ite (fun h19 => ?_) (fun h19 => ?_)
      · exact q_J.step (fun g => j_icmp_t rfl (cc_lt_t h19) (j_iconst (0 : Int32) rfl k32_0 (j_iadd rfl (j_istore_n [some (.ref v0), some (.int v1), some (.int v2), some (.int (v3 + (0 : Int32))), some (.int v4)] rfl rfl (Or.inr rfl) rfl (j_iinc [some (.ref v0), some (.int v1), some (.int v2), some (.int (v3 + (0 : Int32))), some (.int (v4 + (1 : Int32)))] (v4 + (1 : Int32)) rfl rfl (by rw [k32_1]) (Or.inr rfl) rfl (j_goto rfl (g))))))) (l_Mo_says_L43 hd v0 v1 v2 hX n (v3 + (0 : Int32)) (v4 + (1 : Int32)) σ)
      exact q_J.step (fun g => j_icmp_f rfl (cc_lt_f h19) (j_iconst (1 : Int32) rfl k32_1 (j_goto rfl (j_iadd rfl (j_istore_n [some (.ref v0), some (.int v1), some (.int v2), some (.int (v3 + (1 : Int32))), some (.int v4)] rfl rfl (Or.inr rfl) rfl (j_iinc [some (.ref v0), some (.int v1), some (.int v2), some (.int (v3 + (1 : Int32))), some (.int (v4 + (1 : Int32)))] (v4 + (1 : Int32)) rfl rfl (by rw [k32_1]) (Or.inr rfl) rfl (j_goto rfl (g)))))))) (l_Mo_says_L43 hd v0 v1 v2 hX n (v3 + (1 : Int32)) (v4 + (1 : Int32)) σ)
    exact J_some (fun h => j_icmp_t rfl (cc_ge_t h14) (j_weak (l := [some (.ref v0), none, none, some (.int v3), none]) (And.intro (Or.inr rfl) (And.intro (Or.inl rfl) (And.intro (Or.inl rfl) (And.intro (Or.inr rfl) (And.intro (Or.inl rfl) True.intro))))) (hX _ _ h)))

def f_Mo_says (v0 : Nat) (v1 : Int32) (v2 : Int32) (σ : q_H) : Option ((Int32) × q_H) := (q_sf σ 12 v0 0 (.int (0 : Int32))).bind fun σ1 => (q_ob σ1 12 v0).bind fun w2 => q_sq (f_Mo_lays v0 σ1) fun (_ : Unit) σ3 => q_sq (f_Mo_within v1 (0 : Int32) (99 : Int32) σ3) fun x6 σ5 => if x6 = (0 : Int32) then (some ((-1 : Int32), σ5)) else (q_sq (f_Mo_within v2 (1 : Int32) (99 : Int32) σ5) fun x9 σ8 => if x9 = (0 : Int32) then (some ((-1 : Int32), σ8)) else ((q_gi (q_gf σ8 12 v0 58)).bind fun x11 => if x11 = (0 : Int32) then (some ((-1 : Int32), σ8)) else (q_sq (f_Mo_says_L43 v0 v1 v2 q_FU (0 : Int32) (0 : Int32) σ8) fun (t20 : Int32) σ21 => (q_gi (q_gf σ21 12 v0 58)).bind fun x22 => if t20 = x22 then (some ((2 : Int32), σ21)) else (if (0 : Int32) < t20 then (some ((1 : Int32), σ21)) else (some ((0 : Int32), σ21))))))
set_option maxRecDepth 100000 in
theorem b_Mo_says {fo : Option Nat} {d : Nat} (hd : 8 ≤ d + 1) {o : q_O} {σ' : q_H} (v0 : Nat) (v1 : Int32) (v2 : Int32) (σ : q_H) : q_J (fun (r : Int32) (σ1 : q_H) => o = .inl (some (.int r)) ∧ σ' = σ1) (f_Mo_says v0 v1 v2 σ) (q_G (q_rf fo) d m_Mo_says o σ' 0 [some (.ref v0), some (.int v1), some (.int v2), none, none] [] σ) := by
  unfold f_Mo_says
  refine J_bind fun σ1 hσ1 => ?_
  refine J_bind fun w2 hw2 => ?_
  refine J_cl fun _ σ3 hσ3 => ?_
  refine J_cl fun x6 σ5 hσ5 => ?_
  refine q_J.step (fun g => j_aload_n rfl rfl (j_iconst (0 : Int32) rfl k32_0 (j_putf rfl rfl rfl rfl hσ1 (j_aload_n rfl rfl (j_v0 [.ref v0] [] rfl rfl rfl rfl rfl rfl hw2 (Or.inl rfl) (t_Mo_lays (by omega) hσ3) (j_iload_n rfl rfl (j_iconst (0 : Int32) rfl k32_0 (j_bipush (99 : Int32) rfl kb_99 (j_s1 [.int v1, .int (0 : Int32), .int (99 : Int32)] [] rfl rfl rfl rfl rfl (t_Mo_within (by omega) hσ5) (g)))))))))) ?_
  refine J_ite (fun h7 => ?_) (fun h7 => ?_)
  · exact J_some (fun h => j_if_t rfl (cc_eq_t h7) (j_iconst (-1 : Int32) rfl k32_m1 (j_iret rfl rfl h)))
  refine J_cl fun x9 σ8 hσ8 => ?_
  refine q_J.step (fun g => j_if_f rfl (cc_eq_f h7) (j_iload_n rfl rfl (j_iconst (1 : Int32) rfl k32_1 (j_bipush (99 : Int32) rfl kb_99 (j_s1 [.int v2, .int (1 : Int32), .int (99 : Int32)] [] rfl rfl rfl rfl rfl (t_Mo_within (by omega) hσ8) (g)))))) ?_
  refine J_ite (fun h10 => ?_) (fun h10 => ?_)
  · exact J_some (fun h => j_if_t rfl (cc_eq_t h10) (j_iconst (-1 : Int32) rfl k32_m1 (j_iret rfl rfl h)))
  refine J_bind fun x11 hx11 => ?_
  refine q_J.step (fun g => j_if_f rfl (cc_eq_f h10) (j_aload_n rfl rfl (j_gfi rfl hx11 (g)))) ?_
  refine J_ite (fun h12 => ?_) (fun h12 => ?_)
  · exact J_some (fun h => j_if_f rfl (cc_ne_f h12) (j_iconst (-1 : Int32) rfl k32_m1 (j_iret rfl rfl h)))
  refine J_sq (fun (t20 : Int32) (σ21 : q_H) => q_G (q_rf fo) d m_Mo_says o σ' 87 [some (.ref v0), none, none, some (.int t20), none] [] σ21) (q_J.step (fun g => j_if_t rfl (cc_ne_t h12) (j_iconst (0 : Int32) rfl k32_0 (j_istore_n [some (.ref v0), some (.int v1), some (.int v2), some (.int (0 : Int32)), none] rfl rfl (Or.inr rfl) rfl (j_iconst (0 : Int32) rfl k32_0 (j_istore [some (.ref v0), some (.int v1), some (.int v2), some (.int (0 : Int32)), some (.int (0 : Int32))] rfl rfl (Or.inr rfl) rfl (g)))))) (l_Mo_says_L43 hd v0 v1 v2 (fun _ _ h => h) q_FU (0 : Int32) (0 : Int32) σ8)) (fun t20 σ21 => ?_)
  refine J_bind fun x22 hx22 => ?_
  refine q_J.step (fun g => j_iload_n rfl rfl (j_aload_n rfl rfl (j_gfi rfl hx22 (g)))) ?_
  refine J_ite (fun h23 => ?_) (fun h23 => ?_)
  · exact J_some (fun h => j_icmp_f rfl (cc_ne_f h23) (j_iconst (2 : Int32) rfl k32_2 (j_goto rfl (j_iret rfl rfl h))))
  refine q_J.step (fun g => j_icmp_t rfl (cc_ne_t h23) (j_iload_n rfl rfl (g))) ?_
  refine J_ite (fun h24 => ?_) (fun h24 => ?_)
  · exact J_some (fun h => j_if_f rfl (cc_le_f h24) (j_iconst (1 : Int32) rfl k32_1 (j_goto rfl (j_iret rfl rfl h))))
  exact J_some (fun h => j_if_t rfl (cc_le_t h24) (j_iconst (0 : Int32) rfl k32_0 (j_iret rfl rfl h)))
theorem t_Mo_says {fo : Option Nat} {d : Nat} (hd : 8 ≤ d) {v0 : Nat} {v1 : Int32} {v2 : Int32} {σ σ1 : q_H} {r : Int32} (h : f_Mo_says v0 v1 v2 σ = some (r, σ1)) : q_Rel (q_rf fo) q_Ms d 273 [.ref v0, .int v1, .int v2] σ (.inl (some (.int r))) σ1 := by
  obtain ⟨d, rfl⟩ : ∃ d1, d = d1 + 1 := ⟨d - 1, by omega⟩
  exact q_Rel.of rfl rfl (b_Mo_says hd _ _ _ σ _ _ h ⟨rfl, rfl⟩)

def f_Mo_left (v0 : Nat) (v1 : Int32) (v2 : Int32) (v3 : Int32) (σ : q_H) : Option ((Int32) × q_H) := (q_sf σ 12 v0 0 (.int (0 : Int32))).bind fun σ1 => q_sq (f_Mo_within v2 (0 : Int32) (1 : Int32) σ1) fun x3 σ2 => if x3 = (0 : Int32) then (some ((-1 : Int32), σ2)) else (q_sq (f_Mo_within v3 (0 : Int32) (1 : Int32) σ2) fun x6 σ5 => if x6 = (0 : Int32) then (some ((-1 : Int32), σ5)) else (if v1 = (-1 : Int32) then (if v1 = (-1 : Int32) then ((q_ob σ5 12 v0).bind fun w10 => q_sq (f_Mo_leftAll v0 v2 ((2 : Int32) - v3) σ5) fun x12 σ11 => some (x12, σ11)) else ((q_ob σ5 12 v0).bind fun w13 => q_sq (f_Mo_houses v0 σ5) fun (_ : Unit) σ14 => (q_ob σ14 12 v0).bind fun w16 => q_sq (f_Mo_leftIn v0 v1 v2 ((2 : Int32) - v3) σ14) fun x18 σ17 => some (x18, σ17))) else ((q_ob σ5 12 v0).bind fun w19 => q_sq (f_Mo_isThere v0 v1 σ5) fun x21 σ20 => if x21 = (0 : Int32) then (some ((-1 : Int32), σ20)) else (if v1 = (-1 : Int32) then ((q_ob σ20 12 v0).bind fun w24 => q_sq (f_Mo_leftAll v0 v2 ((2 : Int32) - v3) σ20) fun x26 σ25 => some (x26, σ25)) else ((q_ob σ20 12 v0).bind fun w27 => q_sq (f_Mo_houses v0 σ20) fun (_ : Unit) σ28 => (q_ob σ28 12 v0).bind fun w30 => q_sq (f_Mo_leftIn v0 v1 v2 ((2 : Int32) - v3) σ28) fun x32 σ31 => some (x32, σ31))))))
set_option maxRecDepth 100000 in
theorem b_Mo_left {fo : Option Nat} {d : Nat} (hd : 9 ≤ d + 1) {o : q_O} {σ' : q_H} (v0 : Nat) (v1 : Int32) (v2 : Int32) (v3 : Int32) (σ : q_H) : q_J (fun (r : Int32) (σ1 : q_H) => o = .inl (some (.int r)) ∧ σ' = σ1) (f_Mo_left v0 v1 v2 v3 σ) (q_G (q_rf fo) d m_Mo_left o σ' 0 [some (.ref v0), some (.int v1), some (.int v2), some (.int v3)] [] σ) := by
  unfold f_Mo_left
  refine J_bind fun σ1 hσ1 => ?_
  refine J_cl fun x3 σ2 hσ2 => ?_
  refine q_J.step (fun g => j_aload_n rfl rfl (j_iconst (0 : Int32) rfl k32_0 (j_putf rfl rfl rfl rfl hσ1 (j_iload_n rfl rfl (j_iconst (0 : Int32) rfl k32_0 (j_iconst (1 : Int32) rfl k32_1 (j_s1 [.int v2, .int (0 : Int32), .int (1 : Int32)] [] rfl rfl rfl rfl rfl (t_Mo_within (by omega) hσ2) (g)))))))) ?_
  refine J_ite (fun h4 => ?_) (fun h4 => ?_)
  · exact J_some (fun h => j_if_t rfl (cc_eq_t h4) (j_iconst (-1 : Int32) rfl k32_m1 (j_iret rfl rfl h)))
  refine J_cl fun x6 σ5 hσ5 => ?_
  refine q_J.step (fun g => j_if_f rfl (cc_eq_f h4) (j_iload_n rfl rfl (j_iconst (0 : Int32) rfl k32_0 (j_iconst (1 : Int32) rfl k32_1 (j_s1 [.int v3, .int (0 : Int32), .int (1 : Int32)] [] rfl rfl rfl rfl rfl (t_Mo_within (by omega) hσ5) (g)))))) ?_
  refine J_ite (fun h7 => ?_) (fun h7 => ?_)
  · exact J_some (fun h => j_if_t rfl (cc_eq_t h7) (j_iconst (-1 : Int32) rfl k32_m1 (j_iret rfl rfl h)))
  refine q_J.step (fun g => j_if_f rfl (cc_eq_f h7) (j_iload_n rfl rfl (j_iconst (-1 : Int32) rfl k32_m1 (g)))) ?_
  refine J_ite (fun h8 => ?_) (fun h8 => ?_)
  · refine q_J.step (fun g => j_icmp_t rfl (cc_eq_t h8) (j_iload_n rfl rfl (j_iconst (-1 : Int32) rfl k32_m1 (g)))) ?_
    refine J_ite (fun h9 => ?_) (fun h9 => ?_)
    · refine J_bind fun w10 hw10 => ?_
      refine J_cl fun x12 σ11 hσ11 => ?_
      exact J_some (fun h => j_icmp_f rfl (cc_ne_f h9) (j_aload_n rfl rfl (j_iload_n rfl rfl (j_iconst (2 : Int32) rfl k32_2 (j_iload_n rfl rfl (j_isub rfl (j_v1 [.ref v0, .int v2, .int ((2 : Int32) - v3)] [] rfl rfl rfl rfl rfl rfl hw10 (Or.inl rfl) (t_Mo_leftAll (by omega) hσ11) (j_iret rfl rfl h))))))))
    refine J_bind fun w13 hw13 => ?_
    refine J_cl fun _ σ14 hσ14 => ?_
    refine J_bind fun w16 hw16 => ?_
    refine J_cl fun x18 σ17 hσ17 => ?_
    exact J_some (fun h => j_icmp_t rfl (cc_ne_t h9) (j_aload_n rfl rfl (j_v0 [.ref v0] [] rfl rfl rfl rfl rfl rfl hw13 (Or.inl rfl) (t_Mo_houses (by omega) hσ14) (j_aload_n rfl rfl (j_iload_n rfl rfl (j_iload_n rfl rfl (j_iconst (2 : Int32) rfl k32_2 (j_iload_n rfl rfl (j_isub rfl (j_v1 [.ref v0, .int v1, .int v2, .int ((2 : Int32) - v3)] [] rfl rfl rfl rfl rfl rfl hw16 (Or.inl rfl) (t_Mo_leftIn (by omega) hσ17) (j_iret rfl rfl h)))))))))))
  refine J_bind fun w19 hw19 => ?_
  refine J_cl fun x21 σ20 hσ20 => ?_
  refine q_J.step (fun g => j_icmp_f rfl (cc_eq_f h8) (j_aload_n rfl rfl (j_iload_n rfl rfl (j_v1 [.ref v0, .int v1] [] rfl rfl rfl rfl rfl rfl hw19 (Or.inl rfl) (t_Mo_isThere (by omega) hσ20) (g))))) ?_
  refine J_ite (fun h22 => ?_) (fun h22 => ?_)
  · exact J_some (fun h => j_if_f rfl (cc_ne_f h22) (j_iconst (-1 : Int32) rfl k32_m1 (j_iret rfl rfl h)))
  refine q_J.step (fun g => j_if_t rfl (cc_ne_t h22) (j_iload_n rfl rfl (j_iconst (-1 : Int32) rfl k32_m1 (g)))) ?_
  refine J_ite (fun h23 => ?_) (fun h23 => ?_)
  · refine J_bind fun w24 hw24 => ?_
    refine J_cl fun x26 σ25 hσ25 => ?_
    exact J_some (fun h => j_icmp_f rfl (cc_ne_f h23) (j_aload_n rfl rfl (j_iload_n rfl rfl (j_iconst (2 : Int32) rfl k32_2 (j_iload_n rfl rfl (j_isub rfl (j_v1 [.ref v0, .int v2, .int ((2 : Int32) - v3)] [] rfl rfl rfl rfl rfl rfl hw24 (Or.inl rfl) (t_Mo_leftAll (by omega) hσ25) (j_iret rfl rfl h))))))))
  refine J_bind fun w27 hw27 => ?_
  refine J_cl fun _ σ28 hσ28 => ?_
  refine J_bind fun w30 hw30 => ?_
  refine J_cl fun x32 σ31 hσ31 => ?_
  exact J_some (fun h => j_icmp_t rfl (cc_ne_t h23) (j_aload_n rfl rfl (j_v0 [.ref v0] [] rfl rfl rfl rfl rfl rfl hw27 (Or.inl rfl) (t_Mo_houses (by omega) hσ28) (j_aload_n rfl rfl (j_iload_n rfl rfl (j_iload_n rfl rfl (j_iconst (2 : Int32) rfl k32_2 (j_iload_n rfl rfl (j_isub rfl (j_v1 [.ref v0, .int v1, .int v2, .int ((2 : Int32) - v3)] [] rfl rfl rfl rfl rfl rfl hw30 (Or.inl rfl) (t_Mo_leftIn (by omega) hσ31) (j_iret rfl rfl h)))))))))))
theorem t_Mo_left {fo : Option Nat} {d : Nat} (hd : 9 ≤ d) {v0 : Nat} {v1 : Int32} {v2 : Int32} {v3 : Int32} {σ σ1 : q_H} {r : Int32} (h : f_Mo_left v0 v1 v2 v3 σ = some (r, σ1)) : q_Rel (q_rf fo) q_Ms d 228 [.ref v0, .int v1, .int v2, .int v3] σ (.inl (some (.int r))) σ1 := by
  obtain ⟨d, rfl⟩ : ∃ d1, d = d1 + 1 := ⟨d - 1, by omega⟩
  exact q_Rel.of rfl rfl (b_Mo_left hd _ _ _ _ σ _ _ h ⟨rfl, rfl⟩)

def f_Mo_young_L44 (v0 : Nat) (v1 : Int32) (v2 : Int32) (v4 : Int32) : Nat → Int32 → Int32 → q_H → Option ((Int32) × q_H)
  | 0, _, _, _ => none
  | n + 1, v3, v5, σ => (q_ob σ 12 v0).bind fun w9 => q_sq (f_Mo_isThere v0 v4 σ) fun x11 σ10 => if x11 = (0 : Int32) then (some (v3, σ10)) else ((q_gr (q_gf σ10 12 v0 7)).bind fun x13 => (q_gi (q_ga σ10 20 x13 v4)).bind fun x14 => if v5 < (((12 : Int32) * v4) + x14) then ((q_gr (q_gf σ10 12 v0 8)).bind fun x16 => (q_gi (q_ga σ10 20 x16 v5)).bind fun x17 => if x17 = v1 then ((q_gr (q_gf σ10 12 v0 9)).bind fun x19 => (q_gi (q_ga σ10 20 x19 v5)).bind fun x20 => if (14 : Int32) < x20 then (f_Mo_young_L44 v0 v1 v2 v4 n (v3 + (0 : Int32)) (v5 + (1 : Int32)) σ10) else (f_Mo_young_L44 v0 v1 v2 v4 n (v3 + (1 : Int32)) (v5 + (1 : Int32)) σ10)) else (f_Mo_young_L44 v0 v1 v2 v4 n (v3 + (0 : Int32)) (v5 + (1 : Int32)) σ10)) else (some (v3, σ10)))
set_option maxRecDepth 100000 in
theorem l_Mo_young_L44 {fo : Option Nat} {d : Nat} (hd : 9 ≤ d + 1) {o : q_O} {σ' : q_H} {E : (Int32) → q_H → Prop} (v0 : Nat) (v1 : Int32) (v2 : Int32) (v4 : Int32) (hX : ∀ (t : Int32) σ1, E (t) σ1 → q_G (q_rf fo) d m_Mo_young o σ' 108 [some (.ref v0), some (.int v1), some (.int v2), some (.int t), some (.int v4), none] [] σ1)  : ∀ (n : Nat) (v3 : Int32) (v5 : Int32) (σ : q_H), q_J E (f_Mo_young_L44 v0 v1 v2 v4 n v3 v5 σ) (q_G (q_rf fo) d m_Mo_young o σ' 44 [some (.ref v0), some (.int v1), some (.int v2), some (.int v3), some (.int v4), some (.int v5)] [] σ)
  | 0, v3, v5, σ => J_none
  | n + 1, v3, v5, σ => by
    unfold f_Mo_young_L44
    refine J_bind fun w9 hw9 => ?_
    refine J_cl fun x11 σ10 hσ10 => ?_
    refine q_J.step (fun g => j_aload_n rfl rfl (j_iload rfl rfl (j_v1 [.ref v0, .int v4] [] rfl rfl rfl rfl rfl rfl hw9 (Or.inl rfl) (t_Mo_isThere (by omega) hσ10) (g)))) ?_
    refine J_ite (fun h12 => ?_) (fun h12 => ?_)
    · exact J_some (fun h => j_if_t rfl (cc_eq_t h12) (j_weak (l := [some (.ref v0), some (.int v1), some (.int v2), some (.int v3), some (.int v4), none]) (And.intro (Or.inr rfl) (And.intro (Or.inr rfl) (And.intro (Or.inr rfl) (And.intro (Or.inr rfl) (And.intro (Or.inr rfl) (And.intro (Or.inl rfl) True.intro)))))) (hX _ _ h)))
    refine J_bind fun x13 hx13 => ?_
    refine J_bind fun x14 hx14 => ?_
    refine q_J.step (fun g => j_if_f rfl (cc_eq_f h12) (j_iload rfl rfl (j_bipush (12 : Int32) rfl kb_12 (j_iload rfl rfl (j_imul rfl (j_aload_n rfl rfl (j_gfr rfl hx13 (j_iload rfl rfl (j_ial rfl hx14 (j_iadd rfl (g))))))))))) ?_
    refine J_ite (fun h15 => ?_) (fun h15 => ?_)
    · refine J_bind fun x16 hx16 => ?_
      refine J_bind fun x17 hx17 => ?_
      refine q_J.step (fun g => j_icmp_f rfl (cc_ge_f h15) (j_iload_n rfl rfl (j_aload_n rfl rfl (j_gfr rfl hx16 (j_iload rfl rfl (j_ial rfl hx17 (j_iload_n rfl rfl (g)))))))) ?_
      refine J_ite (fun h18 => ?_) (fun h18 => ?_)
      · refine J_bind fun x19 hx19 => ?_
        refine J_bind fun x20 hx20 => ?_
        refine q_J.step (fun g => j_icmp_f rfl (cc_ne_f h18) (j_aload_n rfl rfl (j_gfr rfl hx19 (j_iload rfl rfl (j_ial rfl hx20 (j_bipush (14 : Int32) rfl kb_14 (g))))))) ?_
        refine J_ite (fun h21 => ?_) (fun h21 => ?_)
        · exact q_J.step (fun g => j_icmp_t rfl (cc_gt_t h21) (j_iconst (0 : Int32) rfl k32_0 (j_iadd rfl (j_istore_n [some (.ref v0), some (.int v1), some (.int v2), some (.int (v3 + (0 : Int32))), some (.int v4), some (.int v5)] rfl rfl (Or.inr rfl) rfl (j_iinc [some (.ref v0), some (.int v1), some (.int v2), some (.int (v3 + (0 : Int32))), some (.int v4), some (.int (v5 + (1 : Int32)))] (v5 + (1 : Int32)) rfl rfl (by rw [k32_1]) (Or.inr rfl) rfl (j_goto rfl (g))))))) (l_Mo_young_L44 hd v0 v1 v2 v4 hX n (v3 + (0 : Int32)) (v5 + (1 : Int32)) σ10)
        exact q_J.step (fun g => j_icmp_f rfl (cc_gt_f h21) (j_iconst (1 : Int32) rfl k32_1 (j_goto rfl (j_iadd rfl (j_istore_n [some (.ref v0), some (.int v1), some (.int v2), some (.int (v3 + (1 : Int32))), some (.int v4), some (.int v5)] rfl rfl (Or.inr rfl) rfl (j_iinc [some (.ref v0), some (.int v1), some (.int v2), some (.int (v3 + (1 : Int32))), some (.int v4), some (.int (v5 + (1 : Int32)))] (v5 + (1 : Int32)) rfl rfl (by rw [k32_1]) (Or.inr rfl) rfl (j_goto rfl (g)))))))) (l_Mo_young_L44 hd v0 v1 v2 v4 hX n (v3 + (1 : Int32)) (v5 + (1 : Int32)) σ10)
      exact q_J.step (fun g => j_icmp_t rfl (cc_ne_t h18) (j_iconst (0 : Int32) rfl k32_0 (j_iadd rfl (j_istore_n [some (.ref v0), some (.int v1), some (.int v2), some (.int (v3 + (0 : Int32))), some (.int v4), some (.int v5)] rfl rfl (Or.inr rfl) rfl (j_iinc [some (.ref v0), some (.int v1), some (.int v2), some (.int (v3 + (0 : Int32))), some (.int v4), some (.int (v5 + (1 : Int32)))] (v5 + (1 : Int32)) rfl rfl (by rw [k32_1]) (Or.inr rfl) rfl (j_goto rfl (g))))))) (l_Mo_young_L44 hd v0 v1 v2 v4 hX n (v3 + (0 : Int32)) (v5 + (1 : Int32)) σ10)
    exact J_some (fun h => j_icmp_t rfl (cc_ge_t h15) (j_weak (l := [some (.ref v0), some (.int v1), some (.int v2), some (.int v3), some (.int v4), none]) (And.intro (Or.inr rfl) (And.intro (Or.inr rfl) (And.intro (Or.inr rfl) (And.intro (Or.inr rfl) (And.intro (Or.inr rfl) (And.intro (Or.inl rfl) True.intro)))))) (hX _ _ h)))

def f_Mo_young_L30 (v0 : Nat) (v1 : Int32) (v2 : Int32) : Nat → Int32 → Int32 → q_H → Option ((Int32) × q_H)
  | 0, _, _, _ => none
  | n + 1, v3, v4, σ => if v4 < (24 : Int32) then (q_sq (f_Mo_young_L44 v0 v1 v2 v4 q_FU v3 ((12 : Int32) * v4) σ) fun (t22 : Int32) σ23 => f_Mo_young_L30 v0 v1 v2 n t22 (v4 + (1 : Int32)) σ23) else (some (v3, σ))
set_option maxRecDepth 100000 in
theorem l_Mo_young_L30 {fo : Option Nat} {d : Nat} (hd : 9 ≤ d + 1) {o : q_O} {σ' : q_H} {E : (Int32) → q_H → Prop} (v0 : Nat) (v1 : Int32) (v2 : Int32) (hX : ∀ (t : Int32) σ1, E (t) σ1 → q_G (q_rf fo) d m_Mo_young o σ' 114 [some (.ref v0), some (.int v1), some (.int v2), some (.int t), none, none] [] σ1)  : ∀ (n : Nat) (v3 : Int32) (v4 : Int32) (σ : q_H), q_J E (f_Mo_young_L30 v0 v1 v2 n v3 v4 σ) (q_G (q_rf fo) d m_Mo_young o σ' 30 [some (.ref v0), some (.int v1), some (.int v2), some (.int v3), some (.int v4), none] [] σ)
  | 0, v3, v4, σ => J_none
  | n + 1, v3, v4, σ => by
    unfold f_Mo_young_L30
    refine q_J.step (fun g => j_iload rfl rfl (j_bipush (24 : Int32) rfl kb_24 (g))) ?_
    refine J_ite (fun h8 => ?_) (fun h8 => ?_)
    · refine J_sq (fun (t22 : Int32) (σ23 : q_H) => q_G (q_rf fo) d m_Mo_young o σ' 108 [some (.ref v0), some (.int v1), some (.int v2), some (.int t22), some (.int v4), none] [] σ23) (q_J.step (fun g => j_icmp_f rfl (cc_ge_f h8) (j_bipush (12 : Int32) rfl kb_12 (j_iload rfl rfl (j_imul rfl (j_istore [some (.ref v0), some (.int v1), some (.int v2), some (.int v3), some (.int v4), some (.int ((12 : Int32) * v4))] rfl rfl (Or.inr rfl) rfl (g)))))) (l_Mo_young_L44 hd v0 v1 v2 v4 (fun _ _ h => h) q_FU v3 ((12 : Int32) * v4) σ)) (fun t22 σ23 => ?_)
      exact q_J.step (fun g => j_iinc [some (.ref v0), some (.int v1), some (.int v2), some (.int t22), some (.int (v4 + (1 : Int32))), none] (v4 + (1 : Int32)) rfl rfl (by rw [k32_1]) (Or.inr rfl) rfl (j_goto rfl (g))) (l_Mo_young_L30 hd v0 v1 v2 hX n t22 (v4 + (1 : Int32)) σ23)
    exact J_some (fun h => j_icmp_t rfl (cc_ge_t h8) (j_weak (l := [some (.ref v0), some (.int v1), some (.int v2), some (.int v3), none, none]) (And.intro (Or.inr rfl) (And.intro (Or.inr rfl) (And.intro (Or.inr rfl) (And.intro (Or.inr rfl) (And.intro (Or.inl rfl) (And.intro (Or.inr rfl) True.intro)))))) (hX _ _ h)))

def f_Mo_young (v0 : Nat) (v1 : Int32) (v2 : Int32) (σ : q_H) : Option ((Int32) × q_H) := (q_sf σ 12 v0 0 (.int (0 : Int32))).bind fun σ1 => q_sq (f_Mo_within v1 (0 : Int32) (1 : Int32) σ1) fun x3 σ2 => if x3 = (0 : Int32) then (some ((-1 : Int32), σ2)) else (q_sq (f_Mo_within v2 (0 : Int32) (2 : Int32) σ2) fun x6 σ5 => if x6 = (0 : Int32) then (some ((-1 : Int32), σ5)) else (q_sq (f_Mo_young_L30 v0 v1 v2 q_FU (0 : Int32) (0 : Int32) σ5) fun (t24 : Int32) σ25 => q_sq (if (0 : Int32) < v2 then ((q_ob σ25 12 v0).bind fun w27 => q_sq (f_Mo_leftAll v0 v1 (2 : Int32) σ25) fun x29 σ28 => some ((t24 + x29), σ28)) else (some (t24, σ25))) fun (t30 : Int32) σ31 => if (1 : Int32) < v2 then ((q_ob σ31 12 v0).bind fun w33 => q_sq (f_Mo_leftAll v0 v1 (1 : Int32) σ31) fun x35 σ34 => some ((t30 + x35), σ34)) else (some (t30, σ31))))
set_option maxRecDepth 100000 in
theorem b_Mo_young {fo : Option Nat} {d : Nat} (hd : 9 ≤ d + 1) {o : q_O} {σ' : q_H} (v0 : Nat) (v1 : Int32) (v2 : Int32) (σ : q_H) : q_J (fun (r : Int32) (σ1 : q_H) => o = .inl (some (.int r)) ∧ σ' = σ1) (f_Mo_young v0 v1 v2 σ) (q_G (q_rf fo) d m_Mo_young o σ' 0 [some (.ref v0), some (.int v1), some (.int v2), none, none, none] [] σ) := by
  unfold f_Mo_young
  refine J_bind fun σ1 hσ1 => ?_
  refine J_cl fun x3 σ2 hσ2 => ?_
  refine q_J.step (fun g => j_aload_n rfl rfl (j_iconst (0 : Int32) rfl k32_0 (j_putf rfl rfl rfl rfl hσ1 (j_iload_n rfl rfl (j_iconst (0 : Int32) rfl k32_0 (j_iconst (1 : Int32) rfl k32_1 (j_s1 [.int v1, .int (0 : Int32), .int (1 : Int32)] [] rfl rfl rfl rfl rfl (t_Mo_within (by omega) hσ2) (g)))))))) ?_
  refine J_ite (fun h4 => ?_) (fun h4 => ?_)
  · exact J_some (fun h => j_if_t rfl (cc_eq_t h4) (j_iconst (-1 : Int32) rfl k32_m1 (j_iret rfl rfl h)))
  refine J_cl fun x6 σ5 hσ5 => ?_
  refine q_J.step (fun g => j_if_f rfl (cc_eq_f h4) (j_iload_n rfl rfl (j_iconst (0 : Int32) rfl k32_0 (j_iconst (2 : Int32) rfl k32_2 (j_s1 [.int v2, .int (0 : Int32), .int (2 : Int32)] [] rfl rfl rfl rfl rfl (t_Mo_within (by omega) hσ5) (g)))))) ?_
  refine J_ite (fun h7 => ?_) (fun h7 => ?_)
  · exact J_some (fun h => j_if_f rfl (cc_ne_f h7) (j_iconst (-1 : Int32) rfl k32_m1 (j_iret rfl rfl h)))
  refine J_sq (fun (t24 : Int32) (σ25 : q_H) => q_G (q_rf fo) d m_Mo_young o σ' 114 [some (.ref v0), some (.int v1), some (.int v2), some (.int t24), none, none] [] σ25) (q_J.step (fun g => j_if_t rfl (cc_ne_t h7) (j_iconst (0 : Int32) rfl k32_0 (j_istore_n [some (.ref v0), some (.int v1), some (.int v2), some (.int (0 : Int32)), none, none] rfl rfl (Or.inr rfl) rfl (j_iconst (0 : Int32) rfl k32_0 (j_istore [some (.ref v0), some (.int v1), some (.int v2), some (.int (0 : Int32)), some (.int (0 : Int32)), none] rfl rfl (Or.inr rfl) rfl (g)))))) (l_Mo_young_L30 hd v0 v1 v2 (fun _ _ h => h) q_FU (0 : Int32) (0 : Int32) σ5)) (fun t24 σ25 => ?_)
  refine q_J.step (fun g => j_iload_n rfl rfl (g)) ?_
  refine J_sq (fun (t30 : Int32) (σ31 : q_H) => q_G (q_rf fo) d m_Mo_young o σ' 127 [some (.ref v0), some (.int v1), some (.int v2), some (.int t30), none, none] [] σ31) ?_ (fun t30 σ31 => ?_)
  · refine J_ite (fun h26 => ?_) (fun h26 => ?_)
    · refine J_bind fun w27 hw27 => ?_
      refine J_cl fun x29 σ28 hσ28 => ?_
      exact J_some (fun h => j_if_f rfl (cc_le_f h26) (j_iload_n rfl rfl (j_aload_n rfl rfl (j_iload_n rfl rfl (j_iconst (2 : Int32) rfl k32_2 (j_v1 [.ref v0, .int v1, .int (2 : Int32)] [.int t24] rfl rfl rfl rfl rfl rfl hw27 (Or.inl rfl) (t_Mo_leftAll (by omega) hσ28) (j_iadd rfl (j_istore_n [some (.ref v0), some (.int v1), some (.int v2), some (.int (t24 + x29)), none, none] rfl rfl (Or.inr rfl) rfl (h)))))))))
    exact J_some (fun h => j_if_t rfl (cc_le_t h26) (h))
  refine q_J.step (fun g => j_iload_n rfl rfl (j_iconst (1 : Int32) rfl k32_1 (g))) ?_
  refine J_ite (fun h32 => ?_) (fun h32 => ?_)
  · refine J_bind fun w33 hw33 => ?_
    refine J_cl fun x35 σ34 hσ34 => ?_
    exact J_some (fun h => j_icmp_f rfl (cc_le_f h32) (j_iload_n rfl rfl (j_aload_n rfl rfl (j_iload_n rfl rfl (j_iconst (1 : Int32) rfl k32_1 (j_v1 [.ref v0, .int v1, .int (1 : Int32)] [.int t30] rfl rfl rfl rfl rfl rfl hw33 (Or.inl rfl) (t_Mo_leftAll (by omega) hσ34) (j_iadd rfl (j_istore_n [some (.ref v0), some (.int v1), some (.int v2), some (.int (t30 + x35)), none, none] rfl rfl (Or.inr rfl) rfl (j_iload_n rfl rfl (j_iret rfl rfl h))))))))))
  exact J_some (fun h => j_icmp_t rfl (cc_le_t h32) (j_iload_n rfl rfl (j_iret rfl rfl h)))
theorem t_Mo_young {fo : Option Nat} {d : Nat} (hd : 9 ≤ d) {v0 : Nat} {v1 : Int32} {v2 : Int32} {σ σ1 : q_H} {r : Int32} (h : f_Mo_young v0 v1 v2 σ = some (r, σ1)) : q_Rel (q_rf fo) q_Ms d 274 [.ref v0, .int v1, .int v2] σ (.inl (some (.int r))) σ1 := by
  obtain ⟨d, rfl⟩ : ∃ d1, d = d1 + 1 := ⟨d - 1, by omega⟩
  exact q_Rel.of rfl rfl (b_Mo_young hd _ _ _ σ _ _ h ⟨rfl, rfl⟩)

