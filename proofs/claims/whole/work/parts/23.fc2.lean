/-! Methods of the class: functions on the small heap, and their walks: by program. -/
def f_Wo_bear_L18 (v0 : Nat) (v1 : Nat) (v2 : Int32) : Nat → Int32 → Int32 → q_H → Option ((Unit) × q_H)
  | 0, _, _, _ => none
  | n + 1, v3, v4, σ => (q_gi (q_gf σ 5 v0 3)).bind fun x5 => if v4 < x5 then (if v4 < (6 : Int32) then ((q_gr (q_gf σ 5 v0 5)).bind fun x8 => (q_ob σ 5 v0).bind fun w9 => q_sq (f_Wo_draw v0 (2 : Int32) σ) fun x11 σ10 => q_sq (if x11 = (1 : Int32) then (some ((1 : Int32), σ10)) else (some ((0 : Int32), σ10))) fun (t13 : Int32) σ14 => if ¬ (t13 = 0 ∨ t13 = 1) then none else (q_sa σ14 22 x8 v4 (.int t13)).bind fun σ15 => (q_ob σ15 5 v0).bind fun w17 => q_sq (f_Wo_draw v0 (5 : Int32) σ15) fun x19 σ18 => (q_gr (q_gf σ18 5 v0 4)).bind fun x20 => (q_sa σ18 20 x20 v4 (.int (v3 - (x19 + (1 : Int32))))).bind fun σ21 => (q_gr (q_gf σ21 5 v0 6)).bind fun x22 => (q_ob σ21 5 v0).bind fun w23 => q_sq (f_Wo_draw v0 (5000 : Int32) σ21) fun x25 σ24 => (q_ob σ24 4 v1).bind fun w26 => q_sq (f_Li_fifthsAt v1 v2 (if (0 : Int32) < (v3 - (x19 + (1 : Int32))) then (v3 - (x19 + (1 : Int32))) else (0 : Int32)) σ24) fun x28 σ27 => if x25 < x28 then ((q_sa σ27 22 x22 v4 (.int (1 : Int32))).bind fun σ30 => (q_gr (q_gf σ30 5 v0 7)).bind fun x31 => (q_sa σ30 22 x31 v4 (.int (0 : Int32))).bind fun σ32 => f_Wo_bear_L18 v0 v1 v2 n (v3 - (x19 + (1 : Int32))) (v4 + (1 : Int32)) σ32) else ((q_sa σ27 22 x22 v4 (.int (0 : Int32))).bind fun σ33 => (q_gr (q_gf σ33 5 v0 7)).bind fun x34 => (q_sa σ33 22 x34 v4 (.int (0 : Int32))).bind fun σ35 => f_Wo_bear_L18 v0 v1 v2 n (v3 - (x19 + (1 : Int32))) (v4 + (1 : Int32)) σ35)) else (some ((), σ))) else (some ((), σ))
set_option maxRecDepth 100000 in
theorem l_Wo_bear_L18 {fo : Option Nat} {d : Nat} (hd : 2 ≤ d + 1) {o : q_O} {σ' : q_H} {E : (Unit) → q_H → Prop} (v0 : Nat) (v1 : Nat) (v2 : Int32) (hX : ∀ (t : Unit) σ1, E (t) σ1 → q_G (q_rf fo) d m_Wo_bear o σ' 119 [none, none, none, none, none] [] σ1)  : ∀ (n : Nat) (v3 : Int32) (v4 : Int32) (σ : q_H), q_J E (f_Wo_bear_L18 v0 v1 v2 n v3 v4 σ) (q_G (q_rf fo) d m_Wo_bear o σ' 18 [some (.ref v0), some (.ref v1), some (.int v2), some (.int v3), some (.int v4)] [] σ)
  | 0, v3, v4, σ => J_none
  | n + 1, v3, v4, σ => by
    unfold f_Wo_bear_L18
    refine J_bind fun x5 hx5 => ?_
    refine q_J.step (fun g => j_iload rfl rfl (j_aload_n rfl rfl (j_gfi rfl hx5 (g)))) ?_
    refine J_ite (fun h6 => ?_) (fun h6 => ?_)
    · refine q_J.step (fun g => j_icmp_f rfl (cc_ge_f h6) (j_iload rfl rfl (j_bipush (6 : Int32) rfl kb_6 (g)))) ?_
      refine J_ite (fun h7 => ?_) (fun h7 => ?_)
      · refine J_bind fun x8 hx8 => ?_
        refine J_bind fun w9 hw9 => ?_
        refine J_cl fun x11 σ10 hσ10 => ?_
        refine q_J.step (fun g => j_icmp_f rfl (cc_ge_f h7) (j_aload_n rfl rfl (j_gfr rfl hx8 (j_iload rfl rfl (j_aload_n rfl rfl (j_iconst (2 : Int32) rfl k32_2 (j_v1 [.ref v0, .int (2 : Int32)] [.int v4, .ref x8] rfl rfl rfl rfl rfl rfl hw9 (Or.inl rfl) (t_Wo_draw (by omega) hσ10) (j_iconst (1 : Int32) rfl k32_1 (g))))))))) ?_
        refine J_sq (fun (t13 : Int32) (σ14 : q_H) => q_G (q_rf fo) d m_Wo_bear o σ' 54 [some (.ref v0), some (.ref v1), some (.int v2), some (.int v3), some (.int v4)] [.int t13, .int v4, .ref x8] σ14) ?_ (fun t13 σ14 => ?_)
        · refine J_ite (fun h12 => ?_) (fun h12 => ?_)
          · exact J_some (fun h => j_icmp_f rfl (cc_ne_f h12) (j_iconst (1 : Int32) rfl k32_1 (j_goto rfl (h))))
          exact J_some (fun h => j_icmp_t rfl (cc_ne_t h12) (j_iconst (0 : Int32) rfl k32_0 (h)))
        refine J_ite (fun _ => J_none) (fun h16 => ?_)
        refine J_bind fun σ15 hσ15 => ?_
        refine J_bind fun w17 hw17 => ?_
        refine J_cl fun x19 σ18 hσ18 => ?_
        refine J_bind fun x20 hx20 => ?_
        refine J_bind fun σ21 hσ21 => ?_
        refine J_bind fun x22 hx22 => ?_
        refine J_bind fun w23 hw23 => ?_
        refine J_cl fun x25 σ24 hσ24 => ?_
        refine J_bind fun w26 hw26 => ?_
        refine J_cl fun x28 σ27 hσ27 => ?_
        refine q_J.step (fun g => j_bas rfl (Decidable.not_not.mp h16) hσ15 (j_iload_n rfl rfl (j_aload_n rfl rfl (j_iconst (5 : Int32) rfl k32_5 (j_v1 [.ref v0, .int (5 : Int32)] [.int v3] rfl rfl rfl rfl rfl rfl hw17 (Or.inl rfl) (t_Wo_draw (by omega) hσ18) (j_iconst (1 : Int32) rfl k32_1 (j_iadd rfl (j_isub rfl (j_istore_n [some (.ref v0), some (.ref v1), some (.int v2), some (.int (v3 - (x19 + (1 : Int32)))), some (.int v4)] rfl rfl (Or.inr rfl) rfl (j_aload_n rfl rfl (j_gfr rfl hx20 (j_iload rfl rfl (j_iload_n rfl rfl (j_ias rfl hσ21 (g))))))))))))))) ?_
        refine q_J.step (fun g => j_aload_n rfl rfl (j_gfr rfl hx22 (j_iload rfl rfl (j_aload_n rfl rfl (j_sipush (5000 : Int32) rfl ks_5000 (j_v1 [.ref v0, .int (5000 : Int32)] [.int v4, .ref x22] rfl rfl rfl rfl rfl rfl hw23 (Or.inl rfl) (t_Wo_draw (by omega) hσ24) (j_aload_n rfl rfl (j_iload_n rfl rfl (j_iconst (0 : Int32) rfl k32_0 (j_iload_n rfl rfl (j_max rfl rfl (j_v1 [.ref v1, .int v2, .int (if (0 : Int32) < (v3 - (x19 + (1 : Int32))) then (v3 - (x19 + (1 : Int32))) else (0 : Int32))] [.int x25, .int v4, .ref x22] rfl rfl rfl rfl rfl rfl hw26 (Or.inl rfl) (t_Li_fifthsAt (by omega) hσ27) (g))))))))))))) ?_
        refine J_ite (fun h29 => ?_) (fun h29 => ?_)
        · refine J_bind fun σ30 hσ30 => ?_
          refine J_bind fun x31 hx31 => ?_
          refine J_bind fun σ32 hσ32 => ?_
          exact q_J.step (fun g => j_icmp_f rfl (cc_ge_f h29) (j_iconst (1 : Int32) rfl k32_1 (j_goto rfl (j_bas rfl (by decide) hσ30 (j_aload_n rfl rfl (j_gfr rfl hx31 (j_iload rfl rfl (j_iconst (0 : Int32) rfl k32_0 (j_bas rfl (by decide) hσ32 (j_iinc [some (.ref v0), some (.ref v1), some (.int v2), some (.int (v3 - (x19 + (1 : Int32)))), some (.int (v4 + (1 : Int32)))] (v4 + (1 : Int32)) rfl rfl (by rw [k32_1]) (Or.inr rfl) rfl (j_goto rfl (g)))))))))))) (l_Wo_bear_L18 hd v0 v1 v2 hX n (v3 - (x19 + (1 : Int32))) (v4 + (1 : Int32)) σ32)
        refine J_bind fun σ33 hσ33 => ?_
        refine J_bind fun x34 hx34 => ?_
        refine J_bind fun σ35 hσ35 => ?_
        exact q_J.step (fun g => j_icmp_t rfl (cc_ge_t h29) (j_iconst (0 : Int32) rfl k32_0 (j_bas rfl (by decide) hσ33 (j_aload_n rfl rfl (j_gfr rfl hx34 (j_iload rfl rfl (j_iconst (0 : Int32) rfl k32_0 (j_bas rfl (by decide) hσ35 (j_iinc [some (.ref v0), some (.ref v1), some (.int v2), some (.int (v3 - (x19 + (1 : Int32)))), some (.int (v4 + (1 : Int32)))] (v4 + (1 : Int32)) rfl rfl (by rw [k32_1]) (Or.inr rfl) rfl (j_goto rfl (g))))))))))) (l_Wo_bear_L18 hd v0 v1 v2 hX n (v3 - (x19 + (1 : Int32))) (v4 + (1 : Int32)) σ35)
      exact J_some (fun h => j_icmp_t rfl (cc_ge_t h7) (j_weak (l := [none, none, none, none, none]) (And.intro (Or.inl rfl) (And.intro (Or.inl rfl) (And.intro (Or.inl rfl) (And.intro (Or.inl rfl) (And.intro (Or.inl rfl) True.intro))))) (hX _ _ h)))
    exact J_some (fun h => j_icmp_t rfl (cc_ge_t h6) (j_weak (l := [none, none, none, none, none]) (And.intro (Or.inl rfl) (And.intro (Or.inl rfl) (And.intro (Or.inl rfl) (And.intro (Or.inl rfl) (And.intro (Or.inl rfl) True.intro))))) (hX _ _ h)))

def f_Wo_bear (v0 : Nat) (v1 : Nat) (v2 : Int32) (σ : q_H) : Option ((Unit) × q_H) := (q_ob σ 5 v0).bind fun w1 => q_sq (f_Wo_draw v0 (6 : Int32) σ) fun x3 σ2 => (q_sf σ2 5 v0 3 (.int (x3 + (1 : Int32)))).bind fun σ4 => q_sq (f_Wo_bear_L18 v0 v1 v2 q_FU (45 : Int32) (0 : Int32) σ4) fun (t36 : Unit) σ37 => some ((), σ37)
set_option maxRecDepth 100000 in
theorem b_Wo_bear {fo : Option Nat} {d : Nat} (hd : 2 ≤ d + 1) {o : q_O} {σ' : q_H} (v0 : Nat) (v1 : Nat) (v2 : Int32) (σ : q_H) : q_J (fun (r : Unit) (σ1 : q_H) => o = .inl none ∧ σ' = σ1) (f_Wo_bear v0 v1 v2 σ) (q_G (q_rf fo) d m_Wo_bear o σ' 0 [some (.ref v0), some (.ref v1), some (.int v2), none, none] [] σ) := by
  unfold f_Wo_bear
  refine J_bind fun w1 hw1 => ?_
  refine J_cl fun x3 σ2 hσ2 => ?_
  refine J_bind fun σ4 hσ4 => ?_
  refine J_sq (fun (t36 : Unit) (σ37 : q_H) => q_G (q_rf fo) d m_Wo_bear o σ' 119 [none, none, none, none, none] [] σ37) (q_J.step (fun g => j_aload_n rfl rfl (j_aload_n rfl rfl (j_bipush (6 : Int32) rfl kb_6 (j_v1 [.ref v0, .int (6 : Int32)] [.ref v0] rfl rfl rfl rfl rfl rfl hw1 (Or.inl rfl) (t_Wo_draw (by omega) hσ2) (j_iconst (1 : Int32) rfl k32_1 (j_iadd rfl (j_putf rfl rfl rfl rfl hσ4 (j_bipush (45 : Int32) rfl kb_45 (j_istore_n [some (.ref v0), some (.ref v1), some (.int v2), some (.int (45 : Int32)), none] rfl rfl (Or.inr rfl) rfl (j_iconst (0 : Int32) rfl k32_0 (j_istore [some (.ref v0), some (.ref v1), some (.int v2), some (.int (45 : Int32)), some (.int (0 : Int32))] rfl rfl (Or.inr rfl) rfl (g)))))))))))) (l_Wo_bear_L18 hd v0 v1 v2 (fun _ _ h => h) q_FU (45 : Int32) (0 : Int32) σ4)) (fun t36 σ37 => ?_)
  exact J_some (fun h => j_vret rfl rfl h)
theorem t_Wo_bear {fo : Option Nat} {d : Nat} (hd : 2 ≤ d) {v0 : Nat} {v1 : Nat} {v2 : Int32} {σ σ1 : q_H} {r : Unit} (h : f_Wo_bear v0 v1 v2 σ = some (r, σ1)) : q_Rel (q_rf fo) q_Ms d 43 [.ref v0, .ref v1, .int v2] σ (.inl none) σ1 := by
  obtain ⟨d, rfl⟩ : ∃ d1, d = d1 + 1 := ⟨d - 1, by omega⟩
  exact q_Rel.of rfl rfl (b_Wo_bear hd _ _ _ σ _ _ h ⟨rfl, rfl⟩)

def f_Wo_marry_L2 (v0 : Nat) (v1 : Int32) (v2 : Int32) : Nat → Int32 → q_H → Option ((Unit) × q_H)
  | 0, _, _ => none
  | n + 1, v3, σ => (q_gi (q_gf σ 5 v0 3)).bind fun x1 => if v3 < x1 then (if v3 < (6 : Int32) then ((q_gr (q_gf σ 5 v0 5)).bind fun x4 => (q_gi (q_ga σ 22 x4 v3)).bind fun x5 => if x5 = (0 : Int32) then ((q_gr (q_gf σ 5 v0 6)).bind fun x7 => (q_gi (q_ga σ 22 x7 v3)).bind fun x8 => if x8 = (0 : Int32) then (f_Wo_marry_L2 v0 v1 v2 n (v3 + (1 : Int32)) σ) else ((q_gr (q_gf σ 5 v0 4)).bind fun x10 => (q_gi (q_ga σ 20 x10 v3)).bind fun x11 => if x11 < (15 : Int32) then (f_Wo_marry_L2 v0 v1 v2 n (v3 + (1 : Int32)) σ) else ((q_gi (q_gf σ 5 v0 0)).bind fun x13 => (q_sf σ 5 v0 0 (.int (x13 + (1 : Int32)))).bind fun σ14 => (q_ob σ14 5 v0).bind fun w15 => q_sq (f_Wo_oldestSisterFor v0 v3 v1 σ14) fun x17 σ16 => if x17 = (-1 : Int32) then (f_Wo_marry_L2 v0 v1 v2 n (v3 + (1 : Int32)) σ16) else ((q_ob σ16 5 v0).bind fun w19 => q_sq (f_Wo_draw v0 (10 : Int32) σ16) fun x21 σ20 => if x21 < v2 then ((q_gr (q_gf σ20 5 v0 7)).bind fun x23 => (q_sa σ20 22 x23 x17 (.int (1 : Int32))).bind fun σ24 => (q_gi (q_gf σ24 5 v0 1)).bind fun x25 => (q_sf σ24 5 v0 1 (.int (x25 + (1 : Int32)))).bind fun σ26 => f_Wo_marry_L2 v0 v1 v2 n (v3 + (1 : Int32)) σ26) else (f_Wo_marry_L2 v0 v1 v2 n (v3 + (1 : Int32)) σ20))))) else (f_Wo_marry_L2 v0 v1 v2 n (v3 + (1 : Int32)) σ)) else (some ((), σ))) else (some ((), σ))
set_option maxRecDepth 100000 in
theorem l_Wo_marry_L2 {fo : Option Nat} {d : Nat} (hd : 2 ≤ d + 1) {o : q_O} {σ' : q_H} {E : (Unit) → q_H → Prop} (v0 : Nat) (v1 : Int32) (v2 : Int32) (hX : ∀ (t : Unit) σ1, E (t) σ1 → q_G (q_rf fo) d m_Wo_marry o σ' 103 [none, none, none, none, none] [] σ1)  : ∀ (n : Nat) (v3 : Int32) (σ : q_H), q_J E (f_Wo_marry_L2 v0 v1 v2 n v3 σ) (q_G (q_rf fo) d m_Wo_marry o σ' 2 [some (.ref v0), some (.int v1), some (.int v2), some (.int v3), none] [] σ)
  | 0, v3, σ => J_none
  | n + 1, v3, σ => by
    unfold f_Wo_marry_L2
    refine J_bind fun x1 hx1 => ?_
    refine q_J.step (fun g => j_iload_n rfl rfl (j_aload_n rfl rfl (j_gfi rfl hx1 (g)))) ?_
    refine J_ite (fun h2 => ?_) (fun h2 => ?_)
    · refine q_J.step (fun g => j_icmp_f rfl (cc_ge_f h2) (j_iload_n rfl rfl (j_bipush (6 : Int32) rfl kb_6 (g)))) ?_
      refine J_ite (fun h3 => ?_) (fun h3 => ?_)
      · refine J_bind fun x4 hx4 => ?_
        refine J_bind fun x5 hx5 => ?_
        refine q_J.step (fun g => j_icmp_f rfl (cc_ge_f h3) (j_aload_n rfl rfl (j_gfr rfl hx4 (j_iload_n rfl rfl (j_bal rfl rfl hx5 (g)))))) ?_
        refine J_ite (fun h6 => ?_) (fun h6 => ?_)
        · refine J_bind fun x7 hx7 => ?_
          refine J_bind fun x8 hx8 => ?_
          refine q_J.step (fun g => j_if_f rfl (cc_ne_f h6) (j_aload_n rfl rfl (j_gfr rfl hx7 (j_iload_n rfl rfl (j_bal rfl rfl hx8 (g)))))) ?_
          refine J_ite (fun h9 => ?_) (fun h9 => ?_)
          · exact q_J.step (fun g => j_if_t rfl (cc_eq_t h9) (j_iinc [some (.ref v0), some (.int v1), some (.int v2), some (.int (v3 + (1 : Int32))), none] (v3 + (1 : Int32)) rfl rfl (by rw [k32_1]) (Or.inr rfl) rfl (j_goto rfl (g)))) (l_Wo_marry_L2 hd v0 v1 v2 hX n (v3 + (1 : Int32)) σ)
          refine J_bind fun x10 hx10 => ?_
          refine J_bind fun x11 hx11 => ?_
          refine q_J.step (fun g => j_if_f rfl (cc_eq_f h9) (j_aload_n rfl rfl (j_gfr rfl hx10 (j_iload_n rfl rfl (j_ial rfl hx11 (j_bipush (15 : Int32) rfl kb_15 (g))))))) ?_
          refine J_ite (fun h12 => ?_) (fun h12 => ?_)
          · exact q_J.step (fun g => j_icmp_t rfl (cc_lt_t h12) (j_iinc [some (.ref v0), some (.int v1), some (.int v2), some (.int (v3 + (1 : Int32))), none] (v3 + (1 : Int32)) rfl rfl (by rw [k32_1]) (Or.inr rfl) rfl (j_goto rfl (g)))) (l_Wo_marry_L2 hd v0 v1 v2 hX n (v3 + (1 : Int32)) σ)
          refine J_bind fun x13 hx13 => ?_
          refine J_bind fun σ14 hσ14 => ?_
          refine J_bind fun w15 hw15 => ?_
          refine J_cl fun x17 σ16 hσ16 => ?_
          refine q_J.step (fun g => j_icmp_f rfl (cc_lt_f h12) (j_aload_n rfl rfl (j_dup rfl rfl (j_gfi rfl hx13 (j_iconst (1 : Int32) rfl k32_1 (j_iadd rfl (j_putf rfl rfl rfl rfl hσ14 (j_aload_n rfl rfl (j_iload_n rfl rfl (j_iload_n rfl rfl (j_v1 [.ref v0, .int v3, .int v1] [] rfl rfl rfl rfl rfl rfl hw15 (Or.inl rfl) (t_Wo_oldestSisterFor (by omega) hσ16) (j_istore [some (.ref v0), some (.int v1), some (.int v2), some (.int v3), some (.int x17)] rfl rfl (Or.inr rfl) rfl (j_iload rfl rfl (j_iconst (-1 : Int32) rfl k32_m1 (g))))))))))))))) ?_
          refine J_ite (fun h18 => ?_) (fun h18 => ?_)
          · exact q_J.step (fun g => j_icmp_t rfl (cc_eq_t h18) (j_iinc [some (.ref v0), some (.int v1), some (.int v2), some (.int (v3 + (1 : Int32))), some (.int x17)] (v3 + (1 : Int32)) rfl rfl (by rw [k32_1]) (Or.inr rfl) rfl (j_goto rfl (j_weak (l := [some (.ref v0), some (.int v1), some (.int v2), some (.int (v3 + (1 : Int32))), none]) (And.intro (Or.inr rfl) (And.intro (Or.inr rfl) (And.intro (Or.inr rfl) (And.intro (Or.inr rfl) (And.intro (Or.inl rfl) True.intro))))) (g))))) (l_Wo_marry_L2 hd v0 v1 v2 hX n (v3 + (1 : Int32)) σ16)
          refine J_bind fun w19 hw19 => ?_
          refine J_cl fun x21 σ20 hσ20 => ?_
          refine q_J.step (fun g => j_icmp_f rfl (cc_eq_f h18) (j_aload_n rfl rfl (j_bipush (10 : Int32) rfl kb_10 (j_v1 [.ref v0, .int (10 : Int32)] [] rfl rfl rfl rfl rfl rfl hw19 (Or.inl rfl) (t_Wo_draw (by omega) hσ20) (j_iload_n rfl rfl (g)))))) ?_
          refine J_ite (fun h22 => ?_) (fun h22 => ?_)
          · refine J_bind fun x23 hx23 => ?_
            refine J_bind fun σ24 hσ24 => ?_
            refine J_bind fun x25 hx25 => ?_
            refine J_bind fun σ26 hσ26 => ?_
            exact q_J.step (fun g => j_icmp_f rfl (cc_ge_f h22) (j_aload_n rfl rfl (j_gfr rfl hx23 (j_iload rfl rfl (j_iconst (1 : Int32) rfl k32_1 (j_bas rfl (by decide) hσ24 (j_aload_n rfl rfl (j_dup rfl rfl (j_gfi rfl hx25 (j_iconst (1 : Int32) rfl k32_1 (j_iadd rfl (j_putf rfl rfl rfl rfl hσ26 (j_iinc [some (.ref v0), some (.int v1), some (.int v2), some (.int (v3 + (1 : Int32))), some (.int x17)] (v3 + (1 : Int32)) rfl rfl (by rw [k32_1]) (Or.inr rfl) rfl (j_goto rfl (j_weak (l := [some (.ref v0), some (.int v1), some (.int v2), some (.int (v3 + (1 : Int32))), none]) (And.intro (Or.inr rfl) (And.intro (Or.inr rfl) (And.intro (Or.inr rfl) (And.intro (Or.inr rfl) (And.intro (Or.inl rfl) True.intro))))) (g)))))))))))))))) (l_Wo_marry_L2 hd v0 v1 v2 hX n (v3 + (1 : Int32)) σ26)
          exact q_J.step (fun g => j_icmp_t rfl (cc_ge_t h22) (j_iinc [some (.ref v0), some (.int v1), some (.int v2), some (.int (v3 + (1 : Int32))), some (.int x17)] (v3 + (1 : Int32)) rfl rfl (by rw [k32_1]) (Or.inr rfl) rfl (j_goto rfl (j_weak (l := [some (.ref v0), some (.int v1), some (.int v2), some (.int (v3 + (1 : Int32))), none]) (And.intro (Or.inr rfl) (And.intro (Or.inr rfl) (And.intro (Or.inr rfl) (And.intro (Or.inr rfl) (And.intro (Or.inl rfl) True.intro))))) (g))))) (l_Wo_marry_L2 hd v0 v1 v2 hX n (v3 + (1 : Int32)) σ20)
        exact q_J.step (fun g => j_if_t rfl (cc_ne_t h6) (j_iinc [some (.ref v0), some (.int v1), some (.int v2), some (.int (v3 + (1 : Int32))), none] (v3 + (1 : Int32)) rfl rfl (by rw [k32_1]) (Or.inr rfl) rfl (j_goto rfl (g)))) (l_Wo_marry_L2 hd v0 v1 v2 hX n (v3 + (1 : Int32)) σ)
      exact J_some (fun h => j_icmp_t rfl (cc_ge_t h3) (j_weak (l := [none, none, none, none, none]) (And.intro (Or.inl rfl) (And.intro (Or.inl rfl) (And.intro (Or.inl rfl) (And.intro (Or.inl rfl) (And.intro (Or.inr rfl) True.intro))))) (hX _ _ h)))
    exact J_some (fun h => j_icmp_t rfl (cc_ge_t h2) (j_weak (l := [none, none, none, none, none]) (And.intro (Or.inl rfl) (And.intro (Or.inl rfl) (And.intro (Or.inl rfl) (And.intro (Or.inl rfl) (And.intro (Or.inr rfl) True.intro))))) (hX _ _ h)))

def f_Wo_marry (v0 : Nat) (v1 : Int32) (v2 : Int32) (σ : q_H) : Option ((Unit) × q_H) := q_sq (f_Wo_marry_L2 v0 v1 v2 q_FU (0 : Int32) σ) fun (t27 : Unit) σ28 => some ((), σ28)
set_option maxRecDepth 100000 in
theorem b_Wo_marry {fo : Option Nat} {d : Nat} (hd : 2 ≤ d + 1) {o : q_O} {σ' : q_H} (v0 : Nat) (v1 : Int32) (v2 : Int32) (σ : q_H) : q_J (fun (r : Unit) (σ1 : q_H) => o = .inl none ∧ σ' = σ1) (f_Wo_marry v0 v1 v2 σ) (q_G (q_rf fo) d m_Wo_marry o σ' 0 [some (.ref v0), some (.int v1), some (.int v2), none, none] [] σ) := by
  unfold f_Wo_marry
  refine J_sq (fun (t27 : Unit) (σ28 : q_H) => q_G (q_rf fo) d m_Wo_marry o σ' 103 [none, none, none, none, none] [] σ28) (q_J.step (fun g => j_iconst (0 : Int32) rfl k32_0 (j_istore_n [some (.ref v0), some (.int v1), some (.int v2), some (.int (0 : Int32)), none] rfl rfl (Or.inr rfl) rfl (g))) (l_Wo_marry_L2 hd v0 v1 v2 (fun _ _ h => h) q_FU (0 : Int32) σ)) (fun t27 σ28 => ?_)
  exact J_some (fun h => j_vret rfl rfl h)
theorem t_Wo_marry {fo : Option Nat} {d : Nat} (hd : 2 ≤ d) {v0 : Nat} {v1 : Int32} {v2 : Int32} {σ σ1 : q_H} {r : Unit} (h : f_Wo_marry v0 v1 v2 σ = some (r, σ1)) : q_Rel (q_rf fo) q_Ms d 45 [.ref v0, .int v1, .int v2] σ (.inl none) σ1 := by
  obtain ⟨d, rfl⟩ : ∃ d1, d = d1 + 1 := ⟨d - 1, by omega⟩
  exact q_Rel.of rfl rfl (b_Wo_marry hd _ _ _ σ _ _ h ⟨rfl, rfl⟩)

def f_La_allows_L4 (v0 : Nat) (v1 : Nat) : Nat → Int32 → Int32 → q_H → Option ((Int32 ⊕ Unit) × q_H)
  | 0, _, _, _ => none
  | n + 1, v2, v3, σ => (q_gi (q_gf σ 6 v0 1)).bind fun x1 => if v3 < x1 then ((q_gr (q_gf σ 6 v0 0)).bind fun x3 => (q_len' σ x3).bind fun x4 => if v3 < x4 then ((q_gr (q_gf σ 6 v0 0)).bind fun x6 => (q_gi (q_ga σ 20 x6 v3)).bind fun x7 => if x7 = (20000 : Int32) then (if (0 : Int32) < v2 then ((q_gr (q_gf σ 6 v0 3)).bind fun x10 => (q_gi (q_ga σ 20 x10 (v2 - (1 : Int32)))).bind fun x11 => if x11 = (0 : Int32) then (f_La_allows_L4 v0 v1 n (0 : Int32) (v3 + (1 : Int32)) σ) else (some ((.inl (1 : Int32)), σ))) else (f_La_allows_L4 v0 v1 n (0 : Int32) (v3 + (1 : Int32)) σ)) else (if x7 = (20001 : Int32) then (if (0 : Int32) < v2 then ((q_gr (q_gf σ 6 v0 3)).bind fun x15 => (q_gr (q_gf σ 6 v0 3)).bind fun x16 => (q_gi (q_ga σ 20 x16 (v2 - (1 : Int32)))).bind fun x17 => if x17 = (0 : Int32) then ((q_sa σ 20 x15 (v2 - (1 : Int32)) (.int (1 : Int32))).bind fun σ19 => f_La_allows_L4 v0 v1 n v2 (v3 + (1 : Int32)) σ19) else ((q_sa σ 20 x15 (v2 - (1 : Int32)) (.int (0 : Int32))).bind fun σ20 => f_La_allows_L4 v0 v1 n v2 (v3 + (1 : Int32)) σ20)) else (f_La_allows_L4 v0 v1 n v2 (v3 + (1 : Int32)) σ)) else (if (20001 : Int32) < x7 then (if (1 : Int32) < v2 then ((q_gr (q_gf σ 6 v0 3)).bind fun x23 => (q_gr (q_gf σ 6 v0 3)).bind fun x24 => (q_gi (q_ga σ 20 x24 ((v2 + (-1 : Int32)) - (1 : Int32)))).bind fun x25 => (q_gr (q_gf σ 6 v0 3)).bind fun x26 => (q_gi (q_ga σ 20 x26 (v2 + (-1 : Int32)))).bind fun x27 => q_sq (f_La_joined x7 x25 x27 σ) fun x29 σ28 => (q_sa σ28 20 x23 ((v2 + (-1 : Int32)) - (1 : Int32)) (.int x29)).bind fun σ30 => f_La_allows_L4 v0 v1 n (v2 + (-1 : Int32)) (v3 + (1 : Int32)) σ30) else (f_La_allows_L4 v0 v1 n v2 (v3 + (1 : Int32)) σ)) else ((q_gr (q_gf σ 6 v0 3)).bind fun x31 => (q_len' σ x31).bind fun x32 => if v2 < x32 then ((q_gr (q_gf σ 6 v0 3)).bind fun x34 => (q_len' σ v1).bind fun x35 => q_sq (f_Rs_isFrom (0 : Int32) (x7 - (10000 : Int32)) (x35 - (1 : Int32)) σ) fun x37 σ36 => if x37 = (0 : Int32) then ((q_sa σ36 20 x34 v2 (.int x7)).bind fun σ39 => f_La_allows_L4 v0 v1 n (v2 + (1 : Int32)) (v3 + (1 : Int32)) σ39) else ((q_gi (q_ga σ36 20 v1 (x7 - (10000 : Int32)))).bind fun x40 => (q_sa σ36 20 x34 v2 (.int x40)).bind fun σ41 => f_La_allows_L4 v0 v1 n (v2 + (1 : Int32)) (v3 + (1 : Int32)) σ41)) else (f_La_allows_L4 v0 v1 n v2 (v3 + (1 : Int32)) σ))))) else (some ((.inr ()), σ))) else (some ((.inr ()), σ))
set_option maxRecDepth 100000 in
theorem l_La_allows_L4 {fo : Option Nat} {d : Nat} (hd : 2 ≤ d + 1) {o : q_O} {σ' : q_H} {E : (Int32 ⊕ Unit) → q_H → Prop} (v0 : Nat) (v1 : Nat) (hR : ∀ r σ1, E (.inl r) σ1 → o = .inl (some (.int r)) ∧ σ' = σ1) (hX : ∀ (t : Unit) σ1, E (.inr t) σ1 → q_G (q_rf fo) d m_La_allows o σ' 198 [none, none, none, none, none, none] [] σ1)  : ∀ (n : Nat) (v2 : Int32) (v3 : Int32) (σ : q_H), q_J E (f_La_allows_L4 v0 v1 n v2 v3 σ) (q_G (q_rf fo) d m_La_allows o σ' 4 [some (.ref v0), some (.ref v1), some (.int v2), some (.int v3), none, none] [] σ)
  | 0, v2, v3, σ => J_none
  | n + 1, v2, v3, σ => by
    unfold f_La_allows_L4
    refine J_bind fun x1 hx1 => ?_
    refine q_J.step (fun g => j_iload_n rfl rfl (j_aload_n rfl rfl (j_gfi rfl hx1 (g)))) ?_
    refine J_ite (fun h2 => ?_) (fun h2 => ?_)
    · refine J_bind fun x3 hx3 => ?_
      refine J_bind fun x4 hx4 => ?_
      refine q_J.step (fun g => j_icmp_f rfl (cc_ge_f h2) (j_iload_n rfl rfl (j_aload_n rfl rfl (j_gfr rfl hx3 (j_alen rfl hx4 (g)))))) ?_
      refine J_ite (fun h5 => ?_) (fun h5 => ?_)
      · refine J_bind fun x6 hx6 => ?_
        refine J_bind fun x7 hx7 => ?_
        refine q_J.step (fun g => j_icmp_f rfl (cc_ge_f h5) (j_aload_n rfl rfl (j_gfr rfl hx6 (j_iload_n rfl rfl (j_ial rfl hx7 (j_istore [some (.ref v0), some (.ref v1), some (.int v2), some (.int v3), some (.int x7), none] rfl rfl (Or.inr rfl) rfl (j_iload rfl rfl (j_sipush (20000 : Int32) rfl ks_20000 (g))))))))) ?_
        refine J_ite (fun h8 => ?_) (fun h8 => ?_)
        · refine q_J.step (fun g => j_icmp_f rfl (cc_ne_f h8) (j_iload_n rfl rfl (g))) ?_
          refine J_ite (fun h9 => ?_) (fun h9 => ?_)
          · refine J_bind fun x10 hx10 => ?_
            refine J_bind fun x11 hx11 => ?_
            refine q_J.step (fun g => j_if_f rfl (cc_le_f h9) (j_aload_n rfl rfl (j_gfr rfl hx10 (j_iload_n rfl rfl (j_iconst (1 : Int32) rfl k32_1 (j_isub rfl (j_ial rfl hx11 (g)))))))) ?_
            refine J_ite (fun h12 => ?_) (fun h12 => ?_)
            · exact q_J.step (fun g => j_if_t rfl (cc_eq_t h12) (j_iconst (0 : Int32) rfl k32_0 (j_istore_n [some (.ref v0), some (.ref v1), some (.int (0 : Int32)), some (.int v3), some (.int x7), none] rfl rfl (Or.inr rfl) rfl (j_goto rfl (j_iinc [some (.ref v0), some (.ref v1), some (.int (0 : Int32)), some (.int (v3 + (1 : Int32))), some (.int x7), none] (v3 + (1 : Int32)) rfl rfl (by rw [k32_1]) (Or.inr rfl) rfl (j_goto rfl (j_weak (l := [some (.ref v0), some (.ref v1), some (.int (0 : Int32)), some (.int (v3 + (1 : Int32))), none, none]) (And.intro (Or.inr rfl) (And.intro (Or.inr rfl) (And.intro (Or.inr rfl) (And.intro (Or.inr rfl) (And.intro (Or.inl rfl) (And.intro (Or.inr rfl) True.intro)))))) (g)))))))) (l_La_allows_L4 hd v0 v1 hR hX n (0 : Int32) (v3 + (1 : Int32)) σ)
            exact J_some (fun h => j_if_f rfl (cc_eq_f h12) (j_iconst (1 : Int32) rfl k32_1 (j_iret rfl (q_zr (Or.inr rfl)) (hR _ _ h))))
          exact q_J.step (fun g => j_if_t rfl (cc_le_t h9) (j_iconst (0 : Int32) rfl k32_0 (j_istore_n [some (.ref v0), some (.ref v1), some (.int (0 : Int32)), some (.int v3), some (.int x7), none] rfl rfl (Or.inr rfl) rfl (j_goto rfl (j_iinc [some (.ref v0), some (.ref v1), some (.int (0 : Int32)), some (.int (v3 + (1 : Int32))), some (.int x7), none] (v3 + (1 : Int32)) rfl rfl (by rw [k32_1]) (Or.inr rfl) rfl (j_goto rfl (j_weak (l := [some (.ref v0), some (.ref v1), some (.int (0 : Int32)), some (.int (v3 + (1 : Int32))), none, none]) (And.intro (Or.inr rfl) (And.intro (Or.inr rfl) (And.intro (Or.inr rfl) (And.intro (Or.inr rfl) (And.intro (Or.inl rfl) (And.intro (Or.inr rfl) True.intro)))))) (g)))))))) (l_La_allows_L4 hd v0 v1 hR hX n (0 : Int32) (v3 + (1 : Int32)) σ)
        refine q_J.step (fun g => j_icmp_t rfl (cc_ne_t h8) (j_iload rfl rfl (j_sipush (20001 : Int32) rfl ks_20001 (g)))) ?_
        refine J_ite (fun h13 => ?_) (fun h13 => ?_)
        · refine q_J.step (fun g => j_icmp_f rfl (cc_ne_f h13) (j_iload_n rfl rfl (g))) ?_
          refine J_ite (fun h14 => ?_) (fun h14 => ?_)
          · refine J_bind fun x15 hx15 => ?_
            refine J_bind fun x16 hx16 => ?_
            refine J_bind fun x17 hx17 => ?_
            refine q_J.step (fun g => j_if_f rfl (cc_le_f h14) (j_aload_n rfl rfl (j_gfr rfl hx15 (j_iload_n rfl rfl (j_iconst (1 : Int32) rfl k32_1 (j_isub rfl (j_aload_n rfl rfl (j_gfr rfl hx16 (j_iload_n rfl rfl (j_iconst (1 : Int32) rfl k32_1 (j_isub rfl (j_ial rfl hx17 (g))))))))))))) ?_
            refine J_ite (fun h18 => ?_) (fun h18 => ?_)
            · refine J_bind fun σ19 hσ19 => ?_
              exact q_J.step (fun g => j_if_f rfl (cc_ne_f h18) (j_iconst (1 : Int32) rfl k32_1 (j_goto rfl (j_ias rfl hσ19 (j_goto rfl (j_iinc [some (.ref v0), some (.ref v1), some (.int v2), some (.int (v3 + (1 : Int32))), some (.int x7), none] (v3 + (1 : Int32)) rfl rfl (by rw [k32_1]) (Or.inr rfl) rfl (j_goto rfl (j_weak (l := [some (.ref v0), some (.ref v1), some (.int v2), some (.int (v3 + (1 : Int32))), none, none]) (And.intro (Or.inr rfl) (And.intro (Or.inr rfl) (And.intro (Or.inr rfl) (And.intro (Or.inr rfl) (And.intro (Or.inl rfl) (And.intro (Or.inr rfl) True.intro)))))) (g))))))))) (l_La_allows_L4 hd v0 v1 hR hX n v2 (v3 + (1 : Int32)) σ19)
            refine J_bind fun σ20 hσ20 => ?_
            exact q_J.step (fun g => j_if_t rfl (cc_ne_t h18) (j_iconst (0 : Int32) rfl k32_0 (j_ias rfl hσ20 (j_goto rfl (j_iinc [some (.ref v0), some (.ref v1), some (.int v2), some (.int (v3 + (1 : Int32))), some (.int x7), none] (v3 + (1 : Int32)) rfl rfl (by rw [k32_1]) (Or.inr rfl) rfl (j_goto rfl (j_weak (l := [some (.ref v0), some (.ref v1), some (.int v2), some (.int (v3 + (1 : Int32))), none, none]) (And.intro (Or.inr rfl) (And.intro (Or.inr rfl) (And.intro (Or.inr rfl) (And.intro (Or.inr rfl) (And.intro (Or.inl rfl) (And.intro (Or.inr rfl) True.intro)))))) (g)))))))) (l_La_allows_L4 hd v0 v1 hR hX n v2 (v3 + (1 : Int32)) σ20)
          exact q_J.step (fun g => j_if_t rfl (cc_le_t h14) (j_iinc [some (.ref v0), some (.ref v1), some (.int v2), some (.int (v3 + (1 : Int32))), some (.int x7), none] (v3 + (1 : Int32)) rfl rfl (by rw [k32_1]) (Or.inr rfl) rfl (j_goto rfl (j_weak (l := [some (.ref v0), some (.ref v1), some (.int v2), some (.int (v3 + (1 : Int32))), none, none]) (And.intro (Or.inr rfl) (And.intro (Or.inr rfl) (And.intro (Or.inr rfl) (And.intro (Or.inr rfl) (And.intro (Or.inl rfl) (And.intro (Or.inr rfl) True.intro)))))) (g))))) (l_La_allows_L4 hd v0 v1 hR hX n v2 (v3 + (1 : Int32)) σ)
        refine q_J.step (fun g => j_icmp_t rfl (cc_ne_t h13) (j_iload rfl rfl (j_sipush (20001 : Int32) rfl ks_20001 (g)))) ?_
        refine J_ite (fun h21 => ?_) (fun h21 => ?_)
        · refine q_J.step (fun g => j_icmp_f rfl (cc_le_f h21) (j_iload_n rfl rfl (j_iconst (1 : Int32) rfl k32_1 (g)))) ?_
          refine J_ite (fun h22 => ?_) (fun h22 => ?_)
          · refine J_bind fun x23 hx23 => ?_
            refine J_bind fun x24 hx24 => ?_
            refine J_bind fun x25 hx25 => ?_
            refine J_bind fun x26 hx26 => ?_
            refine J_bind fun x27 hx27 => ?_
            refine J_cl fun x29 σ28 hσ28 => ?_
            refine J_bind fun σ30 hσ30 => ?_
            exact q_J.step (fun g => j_icmp_f rfl (cc_le_f h22) (j_iinc [some (.ref v0), some (.ref v1), some (.int (v2 + (-1 : Int32))), some (.int v3), some (.int x7), none] (v2 + (-1 : Int32)) rfl rfl (by rw [k32_m1]) (Or.inr rfl) rfl (j_aload_n rfl rfl (j_gfr rfl hx23 (j_iload_n rfl rfl (j_iconst (1 : Int32) rfl k32_1 (j_isub rfl (j_iload rfl rfl (j_aload_n rfl rfl (j_gfr rfl hx24 (j_iload_n rfl rfl (j_iconst (1 : Int32) rfl k32_1 (j_isub rfl (j_ial rfl hx25 (j_aload_n rfl rfl (j_gfr rfl hx26 (j_iload_n rfl rfl (j_ial rfl hx27 (j_s1 [.int x7, .int x25, .int x27] [.int ((v2 + (-1 : Int32)) - (1 : Int32)), .ref x23] rfl rfl rfl rfl rfl (t_La_joined (by omega) hσ28) (j_ias rfl hσ30 (j_goto rfl (j_iinc [some (.ref v0), some (.ref v1), some (.int (v2 + (-1 : Int32))), some (.int (v3 + (1 : Int32))), some (.int x7), none] (v3 + (1 : Int32)) rfl rfl (by rw [k32_1]) (Or.inr rfl) rfl (j_goto rfl (j_weak (l := [some (.ref v0), some (.ref v1), some (.int (v2 + (-1 : Int32))), some (.int (v3 + (1 : Int32))), none, none]) (And.intro (Or.inr rfl) (And.intro (Or.inr rfl) (And.intro (Or.inr rfl) (And.intro (Or.inr rfl) (And.intro (Or.inl rfl) (And.intro (Or.inr rfl) True.intro)))))) (g))))))))))))))))))))))))) (l_La_allows_L4 hd v0 v1 hR hX n (v2 + (-1 : Int32)) (v3 + (1 : Int32)) σ30)
          exact q_J.step (fun g => j_icmp_t rfl (cc_le_t h22) (j_iinc [some (.ref v0), some (.ref v1), some (.int v2), some (.int (v3 + (1 : Int32))), some (.int x7), none] (v3 + (1 : Int32)) rfl rfl (by rw [k32_1]) (Or.inr rfl) rfl (j_goto rfl (j_weak (l := [some (.ref v0), some (.ref v1), some (.int v2), some (.int (v3 + (1 : Int32))), none, none]) (And.intro (Or.inr rfl) (And.intro (Or.inr rfl) (And.intro (Or.inr rfl) (And.intro (Or.inr rfl) (And.intro (Or.inl rfl) (And.intro (Or.inr rfl) True.intro)))))) (g))))) (l_La_allows_L4 hd v0 v1 hR hX n v2 (v3 + (1 : Int32)) σ)
        refine J_bind fun x31 hx31 => ?_
        refine J_bind fun x32 hx32 => ?_
        refine q_J.step (fun g => j_icmp_t rfl (cc_le_t h21) (j_iload_n rfl rfl (j_aload_n rfl rfl (j_gfr rfl hx31 (j_alen rfl hx32 (g)))))) ?_
        refine J_ite (fun h33 => ?_) (fun h33 => ?_)
        · refine J_bind fun x34 hx34 => ?_
          refine J_bind fun x35 hx35 => ?_
          refine J_cl fun x37 σ36 hσ36 => ?_
          refine q_J.step (fun g => j_icmp_f rfl (cc_ge_f h33) (j_iload rfl rfl (j_sipush (10000 : Int32) rfl ks_10000 (j_isub rfl (j_istore [some (.ref v0), some (.ref v1), some (.int v2), some (.int v3), some (.int x7), some (.int (x7 - (10000 : Int32)))] rfl rfl (Or.inr rfl) rfl (j_aload_n rfl rfl (j_gfr rfl hx34 (j_iload_n rfl rfl (j_iconst (0 : Int32) rfl k32_0 (j_iload rfl rfl (j_aload_n rfl rfl (j_alen rfl hx35 (j_iconst (1 : Int32) rfl k32_1 (j_isub rfl (g))))))))))))))) ?_
          refine q_J.step (fun g => j_s1 [.int (0 : Int32), .int (x7 - (10000 : Int32)), .int (x35 - (1 : Int32))] [.int v2, .ref x34] rfl rfl rfl rfl rfl (t_Rs_isFrom (by omega) hσ36) (g)) ?_
          refine J_ite (fun h38 => ?_) (fun h38 => ?_)
          · refine J_bind fun σ39 hσ39 => ?_
            exact q_J.step (fun g => j_if_t rfl (cc_eq_t h38) (j_iload rfl rfl (j_ias rfl hσ39 (j_iinc [some (.ref v0), some (.ref v1), some (.int (v2 + (1 : Int32))), some (.int v3), some (.int x7), some (.int (x7 - (10000 : Int32)))] (v2 + (1 : Int32)) rfl rfl (by rw [k32_1]) (Or.inr rfl) rfl (j_iinc [some (.ref v0), some (.ref v1), some (.int (v2 + (1 : Int32))), some (.int (v3 + (1 : Int32))), some (.int x7), some (.int (x7 - (10000 : Int32)))] (v3 + (1 : Int32)) rfl rfl (by rw [k32_1]) (Or.inr rfl) rfl (j_goto rfl (j_weak (l := [some (.ref v0), some (.ref v1), some (.int (v2 + (1 : Int32))), some (.int (v3 + (1 : Int32))), none, none]) (And.intro (Or.inr rfl) (And.intro (Or.inr rfl) (And.intro (Or.inr rfl) (And.intro (Or.inr rfl) (And.intro (Or.inl rfl) (And.intro (Or.inl rfl) True.intro)))))) (g)))))))) (l_La_allows_L4 hd v0 v1 hR hX n (v2 + (1 : Int32)) (v3 + (1 : Int32)) σ39)
          refine J_bind fun x40 hx40 => ?_
          refine J_bind fun σ41 hσ41 => ?_
          exact q_J.step (fun g => j_if_f rfl (cc_eq_f h38) (j_aload_n rfl rfl (j_iload rfl rfl (j_ial rfl hx40 (j_goto rfl (j_ias rfl hσ41 (j_iinc [some (.ref v0), some (.ref v1), some (.int (v2 + (1 : Int32))), some (.int v3), some (.int x7), some (.int (x7 - (10000 : Int32)))] (v2 + (1 : Int32)) rfl rfl (by rw [k32_1]) (Or.inr rfl) rfl (j_iinc [some (.ref v0), some (.ref v1), some (.int (v2 + (1 : Int32))), some (.int (v3 + (1 : Int32))), some (.int x7), some (.int (x7 - (10000 : Int32)))] (v3 + (1 : Int32)) rfl rfl (by rw [k32_1]) (Or.inr rfl) rfl (j_goto rfl (j_weak (l := [some (.ref v0), some (.ref v1), some (.int (v2 + (1 : Int32))), some (.int (v3 + (1 : Int32))), none, none]) (And.intro (Or.inr rfl) (And.intro (Or.inr rfl) (And.intro (Or.inr rfl) (And.intro (Or.inr rfl) (And.intro (Or.inl rfl) (And.intro (Or.inl rfl) True.intro)))))) (g))))))))))) (l_La_allows_L4 hd v0 v1 hR hX n (v2 + (1 : Int32)) (v3 + (1 : Int32)) σ41)
        exact q_J.step (fun g => j_icmp_t rfl (cc_ge_t h33) (j_iinc [some (.ref v0), some (.ref v1), some (.int v2), some (.int (v3 + (1 : Int32))), some (.int x7), none] (v3 + (1 : Int32)) rfl rfl (by rw [k32_1]) (Or.inr rfl) rfl (j_goto rfl (j_weak (l := [some (.ref v0), some (.ref v1), some (.int v2), some (.int (v3 + (1 : Int32))), none, none]) (And.intro (Or.inr rfl) (And.intro (Or.inr rfl) (And.intro (Or.inr rfl) (And.intro (Or.inr rfl) (And.intro (Or.inl rfl) (And.intro (Or.inr rfl) True.intro)))))) (g))))) (l_La_allows_L4 hd v0 v1 hR hX n v2 (v3 + (1 : Int32)) σ)
      exact J_some (fun h => j_icmp_t rfl (cc_ge_t h5) (j_weak (l := [none, none, none, none, none, none]) (And.intro (Or.inl rfl) (And.intro (Or.inl rfl) (And.intro (Or.inl rfl) (And.intro (Or.inl rfl) (And.intro (Or.inr rfl) (And.intro (Or.inr rfl) True.intro)))))) (hX _ _ h)))
    exact J_some (fun h => j_icmp_t rfl (cc_ge_t h2) (j_weak (l := [none, none, none, none, none, none]) (And.intro (Or.inl rfl) (And.intro (Or.inl rfl) (And.intro (Or.inl rfl) (And.intro (Or.inl rfl) (And.intro (Or.inr rfl) (And.intro (Or.inr rfl) True.intro)))))) (hX _ _ h)))

def f_La_allows (v0 : Nat) (v1 : Nat) (σ : q_H) : Option ((Int32) × q_H) := q_sq (f_La_allows_L4 v0 v1 q_FU (0 : Int32) (0 : Int32) σ) fun (t0 : Int32 ⊕ Unit) σ43 => match t0 with | .inl r44 => some (r44, σ43) | .inr t42 => (some ((0 : Int32), σ43))
set_option maxRecDepth 100000 in
theorem b_La_allows {fo : Option Nat} {d : Nat} (hd : 2 ≤ d + 1) {o : q_O} {σ' : q_H} (v0 : Nat) (v1 : Nat) (σ : q_H) : q_J (fun (r : Int32) (σ1 : q_H) => o = .inl (some (.int r)) ∧ σ' = σ1) (f_La_allows v0 v1 σ) (q_G (q_rf fo) d m_La_allows o σ' 0 [some (.ref v0), some (.ref v1), none, none, none, none] [] σ) := by
  unfold f_La_allows
  refine J_sq (fun (t0 : Int32 ⊕ Unit) (σ43 : q_H) => match t0 with | .inl r => o = .inl (some (.int r)) ∧ σ' = σ43 | .inr t42 => q_G (q_rf fo) d m_La_allows o σ' 198 [none, none, none, none, none, none] [] σ43) (q_J.step (fun g => j_iconst (0 : Int32) rfl k32_0 (j_istore_n [some (.ref v0), some (.ref v1), some (.int (0 : Int32)), none, none, none] rfl rfl (Or.inr rfl) rfl (j_iconst (0 : Int32) rfl k32_0 (j_istore_n [some (.ref v0), some (.ref v1), some (.int (0 : Int32)), some (.int (0 : Int32)), none, none] rfl rfl (Or.inr rfl) rfl (g))))) (l_La_allows_L4 hd v0 v1 (fun _ _ h => h) (fun _ _ h => h) q_FU (0 : Int32) (0 : Int32) σ)) (fun t0 σ43 => ?_)
  cases t0 with
  | inl r44 => exact J_some (fun h => h)
  | inr t42 =>
    exact J_some (fun h => j_iconst (0 : Int32) rfl k32_0 (j_iret rfl (q_zr (Or.inl rfl)) h))
theorem t_La_allows {fo : Option Nat} {d : Nat} (hd : 2 ≤ d) {v0 : Nat} {v1 : Nat} {σ σ1 : q_H} {r : Int32} (h : f_La_allows v0 v1 σ = some (r, σ1)) : q_Rel (q_rf fo) q_Ms d 48 [.ref v0, .ref v1] σ (.inl (some (.int r))) σ1 := by
  obtain ⟨d, rfl⟩ : ∃ d1, d = d1 + 1 := ⟨d - 1, by omega⟩
  exact q_Rel.of rfl rfl (b_La_allows hd _ _ σ _ _ h ⟨rfl, rfl⟩)

def f_Pa_init (v0 : Nat) (σ : q_H) : Option ((Unit) × q_H) := q_ma σ 21 (List.replicate 12 (.long 0)) fun σ1 a2 => (q_sf σ1 8 v0 1 (.ref a2)).bind fun σ3 => q_ma σ3 21 (List.replicate 12 (.long 0)) fun σ4 a5 => (q_sf σ4 8 v0 2 (.ref a5)).bind fun σ6 => q_ma σ6 21 (List.replicate 12 (.long 0)) fun σ7 a8 => (q_sf σ7 8 v0 3 (.ref a8)).bind fun σ9 => q_ma σ9 22 (List.replicate 12 (.int 0)) fun σ10 a11 => (q_sf σ10 8 v0 4 (.ref a11)).bind fun σ12 => q_ma σ12 20 (List.replicate 12 (.int 0)) fun σ13 a14 => (q_sf σ13 8 v0 5 (.ref a14)).bind fun σ15 => q_ma σ15 20 (List.replicate 12 (.int 0)) fun σ16 a17 => (q_sf σ16 8 v0 6 (.ref a17)).bind fun σ18 => q_ma σ18 20 (List.replicate 12 (.int 0)) fun σ19 a20 => (q_sf σ19 8 v0 7 (.ref a20)).bind fun σ21 => q_ma σ21 20 (List.replicate 12 (.int 0)) fun σ22 a23 => (q_sf σ22 8 v0 8 (.ref a23)).bind fun σ24 => q_ma σ24 20 (List.replicate 12 (.int 0)) fun σ25 a26 => (q_sf σ25 8 v0 9 (.ref a26)).bind fun σ27 => q_ma σ27 20 (List.replicate 12 (.int 0)) fun σ28 a29 => (q_sf σ28 8 v0 10 (.ref a29)).bind fun σ30 => q_ma σ30 9 [.null] fun σ31 a32 => q_sq (f_Ty_init a32 σ31) fun (_ : Unit) σ33 => (q_sf σ33 8 v0 11 (.ref a32)).bind fun σ35 => some ((), σ35)
set_option maxRecDepth 100000 in
theorem b_Pa_init {fo : Option Nat} {d : Nat} (hd : 2 ≤ d + 1) {o : q_O} {σ' : q_H} (v0 : Nat) (σ : q_H) : q_J (fun (r : Unit) (σ1 : q_H) => o = .inl none ∧ σ' = σ1) (f_Pa_init v0 σ) (q_G (q_rf fo) d m_Pa_init o σ' 0 [some (.ref v0)] [] σ) := by
  unfold f_Pa_init
  refine J_ma fun σ1 a2 hσ1 ha2 => ?_
  refine J_bind fun σ3 hσ3 => ?_
  refine J_ma fun σ4 a5 hσ4 ha5 => ?_
  refine J_bind fun σ6 hσ6 => ?_
  refine J_ma fun σ7 a8 hσ7 ha8 => ?_
  refine J_bind fun σ9 hσ9 => ?_
  refine J_ma fun σ10 a11 hσ10 ha11 => ?_
  refine J_bind fun σ12 hσ12 => ?_
  refine J_ma fun σ13 a14 hσ13 ha14 => ?_
  refine J_bind fun σ15 hσ15 => ?_
  refine J_ma fun σ16 a17 hσ16 ha17 => ?_
  refine J_bind fun σ18 hσ18 => ?_
  refine J_ma fun σ19 a20 hσ19 ha20 => ?_
  refine J_bind fun σ21 hσ21 => ?_
  refine J_ma fun σ22 a23 hσ22 ha23 => ?_
  refine J_bind fun σ24 hσ24 => ?_
  refine J_ma fun σ25 a26 hσ25 ha26 => ?_
  refine J_bind fun σ27 hσ27 => ?_
  refine J_ma fun σ28 a29 hσ28 ha29 => ?_
  refine J_bind fun σ30 hσ30 => ?_
  refine J_ma fun σ31 a32 hσ31 ha32 => ?_
  refine J_cl fun _ σ33 hσ33 => ?_
  refine J_bind fun σ35 hσ35 => ?_
  exact J_some (fun h => j_aload_n rfl rfl (j_obj rfl rfl (j_aload_n rfl rfl (j_bipush (12 : Int32) rfl kb_12 (j_newk 12 (.long 0) rfl rfl rfl (by decide) (by decide) hσ1 ha2 (j_putf rfl rfl rfl rfl hσ3 (j_aload_n rfl rfl (j_bipush (12 : Int32) rfl kb_12 (j_newk 12 (.long 0) rfl rfl rfl (by decide) (by decide) hσ4 ha5 (j_putf rfl rfl rfl rfl hσ6 (j_aload_n rfl rfl (j_bipush (12 : Int32) rfl kb_12 (j_newk 12 (.long 0) rfl rfl rfl (by decide) (by decide) hσ7 ha8 (j_putf rfl rfl rfl rfl hσ9 (j_aload_n rfl rfl (j_bipush (12 : Int32) rfl kb_12 (j_newk 12 (.int 0) rfl rfl rfl (by decide) (by decide) hσ10 ha11 (j_putf rfl rfl rfl rfl hσ12 (j_aload_n rfl rfl (j_bipush (12 : Int32) rfl kb_12 (j_newk 12 (.int 0) rfl rfl rfl (by decide) (by decide) hσ13 ha14 (j_putf rfl rfl rfl rfl hσ15 (j_aload_n rfl rfl (j_bipush (12 : Int32) rfl kb_12 (j_newk 12 (.int 0) rfl rfl rfl (by decide) (by decide) hσ16 ha17 (j_putf rfl rfl rfl rfl hσ18 (j_aload_n rfl rfl (j_bipush (12 : Int32) rfl kb_12 (j_newk 12 (.int 0) rfl rfl rfl (by decide) (by decide) hσ19 ha20 (j_putf rfl rfl rfl rfl hσ21 (j_aload_n rfl rfl (j_bipush (12 : Int32) rfl kb_12 (j_newk 12 (.int 0) rfl rfl rfl (by decide) (by decide) hσ22 ha23 (j_putf rfl rfl rfl rfl hσ24 (j_aload_n rfl rfl (j_bipush (12 : Int32) rfl kb_12 (j_newk 12 (.int 0) rfl rfl rfl (by decide) (by decide) hσ25 ha26 (j_putf rfl rfl rfl rfl hσ27 (j_aload_n rfl rfl (j_bipush (12 : Int32) rfl kb_12 (j_newk 12 (.int 0) rfl rfl rfl (by decide) (by decide) hσ28 ha29 (j_putf rfl rfl rfl rfl hσ30 (j_aload_n rfl rfl (j_newk2 [.null] rfl rfl rfl hσ31 ha32 (j_dup rfl rfl (j_i0 [.ref a32] [.ref a32, .ref v0] rfl rfl rfl rfl rfl rfl (t_Ty_init (by omega) hσ33) (j_putf rfl rfl rfl rfl hσ35 (j_vret rfl rfl h))))))))))))))))))))))))))))))))))))))))))))))))
theorem t_Pa_init {fo : Option Nat} {d : Nat} (hd : 2 ≤ d) {v0 : Nat} {σ σ1 : q_H} {r : Unit} (h : f_Pa_init v0 σ = some (r, σ1)) : q_Rel (q_rf fo) q_Ms d 60 [.ref v0] σ (.inl none) σ1 := by
  obtain ⟨d, rfl⟩ : ∃ d1, d = d1 + 1 := ⟨d - 1, by omega⟩
  exact q_Rel.of rfl rfl (b_Pa_init hd _ σ _ _ h ⟨rfl, rfl⟩)

def f_Pa_has (v0 : Nat) (v1 : Int32) (σ : q_H) : Option ((Int32) × q_H) := (q_gi (q_gf σ 8 v0 0)).bind fun x1 => q_sq (f_Rs_isFrom (0 : Int32) v1 (x1 - (1 : Int32)) σ) fun x3 σ2 => if ¬ (x3 = 0 ∨ x3 = 1) then none else some (x3, σ2)
set_option maxRecDepth 100000 in
theorem b_Pa_has {fo : Option Nat} {d : Nat} (hd : 2 ≤ d + 1) {o : q_O} {σ' : q_H} (v0 : Nat) (v1 : Int32) (σ : q_H) : q_J (fun (r : Int32) (σ1 : q_H) => o = .inl (some (.int r)) ∧ σ' = σ1) (f_Pa_has v0 v1 σ) (q_G (q_rf fo) d m_Pa_has o σ' 0 [some (.ref v0), some (.int v1)] [] σ) := by
  unfold f_Pa_has
  refine J_bind fun x1 hx1 => ?_
  refine J_cl fun x3 σ2 hσ2 => ?_
  refine q_J.step (fun g => j_iconst (0 : Int32) rfl k32_0 (j_iload_n rfl rfl (j_aload_n rfl rfl (j_gfi rfl hx1 (j_iconst (1 : Int32) rfl k32_1 (j_isub rfl (j_s1 [.int (0 : Int32), .int v1, .int (x1 - (1 : Int32))] [] rfl rfl rfl rfl rfl (t_Rs_isFrom (by omega) hσ2) (g)))))))) ?_
  refine J_ite (fun _ => J_none) (fun hz => ?_)
  replace hz := Decidable.not_not.mp hz
  exact J_some (fun h => j_iret rfl (q_zr hz) h)
theorem t_Pa_has {fo : Option Nat} {d : Nat} (hd : 2 ≤ d) {v0 : Nat} {v1 : Int32} {σ σ1 : q_H} {r : Int32} (h : f_Pa_has v0 v1 σ = some (r, σ1)) : q_Rel (q_rf fo) q_Ms d 64 [.ref v0, .int v1] σ (.inl (some (.int r))) σ1 := by
  obtain ⟨d, rfl⟩ : ∃ d1, d = d1 + 1 := ⟨d - 1, by omega⟩
  exact q_Rel.of rfl rfl (b_Pa_has hd _ _ σ _ _ h ⟨rfl, rfl⟩)

def f_Pa_sortOf (v0 : Nat) (v1 : Int32) (v2 : Int32) (σ : q_H) : Option ((Int32) × q_H) := (q_ob σ 8 v0).bind fun w1 => q_sq (f_Pa_isFull v0 v1 v0 v2 σ) fun x3 σ2 => if x3 = (0 : Int32) then ((q_ob σ2 8 v0).bind fun w5 => q_sq (f_Pa_isHalf v0 v1 v2 σ2) fun x7 σ6 => if x7 = (0 : Int32) then ((q_gr (q_gf σ6 8 v0 8)).bind fun x9 => (q_gi (q_ga σ6 20 x9 v1)).bind fun x10 => if x10 = v2 then ((q_gr (q_gf σ6 8 v0 6)).bind fun x12 => (q_gi (q_ga σ6 20 x12 v1)).bind fun x13 => if (x13 &&& (1 : Int32)) = (0 : Int32) then (some ((2 : Int32), σ6)) else (some ((3 : Int32), σ6))) else (some ((4 : Int32), σ6))) else (some ((1 : Int32), σ6))) else (some ((0 : Int32), σ2))
set_option maxRecDepth 100000 in
theorem b_Pa_sortOf {fo : Option Nat} {d : Nat} (hd : 2 ≤ d + 1) {o : q_O} {σ' : q_H} (v0 : Nat) (v1 : Int32) (v2 : Int32) (σ : q_H) : q_J (fun (r : Int32) (σ1 : q_H) => o = .inl (some (.int r)) ∧ σ' = σ1) (f_Pa_sortOf v0 v1 v2 σ) (q_G (q_rf fo) d m_Pa_sortOf o σ' 0 [some (.ref v0), some (.int v1), some (.int v2)] [] σ) := by
  unfold f_Pa_sortOf
  refine J_bind fun w1 hw1 => ?_
  refine J_cl fun x3 σ2 hσ2 => ?_
  refine q_J.step (fun g => j_aload_n rfl rfl (j_iload_n rfl rfl (j_aload_n rfl rfl (j_iload_n rfl rfl (j_v1 [.ref v0, .int v1, .ref v0, .int v2] [] rfl rfl rfl rfl rfl rfl hw1 (Or.inl rfl) (t_Pa_isFull (by omega) hσ2) (g)))))) ?_
  refine J_ite (fun h4 => ?_) (fun h4 => ?_)
  · refine J_bind fun w5 hw5 => ?_
    refine J_cl fun x7 σ6 hσ6 => ?_
    refine q_J.step (fun g => j_if_t rfl (cc_eq_t h4) (j_aload_n rfl rfl (j_iload_n rfl rfl (j_iload_n rfl rfl (j_v1 [.ref v0, .int v1, .int v2] [] rfl rfl rfl rfl rfl rfl hw5 (Or.inl rfl) (t_Pa_isHalf (by omega) hσ6) (g)))))) ?_
    refine J_ite (fun h8 => ?_) (fun h8 => ?_)
    · refine J_bind fun x9 hx9 => ?_
      refine J_bind fun x10 hx10 => ?_
      refine q_J.step (fun g => j_if_t rfl (cc_eq_t h8) (j_aload_n rfl rfl (j_gfr rfl hx9 (j_iload_n rfl rfl (j_ial rfl hx10 (j_iload_n rfl rfl (g))))))) ?_
      refine J_ite (fun h11 => ?_) (fun h11 => ?_)
      · refine J_bind fun x12 hx12 => ?_
        refine J_bind fun x13 hx13 => ?_
        refine q_J.step (fun g => j_icmp_t rfl (cc_eq_t h11) (j_aload_n rfl rfl (j_gfr rfl hx12 (j_iload_n rfl rfl (j_ial rfl hx13 (j_iconst (1 : Int32) rfl k32_1 (j_iand rfl (g)))))))) ?_
        refine J_ite (fun h14 => ?_) (fun h14 => ?_)
        · exact J_some (fun h => j_if_f rfl (cc_ne_f h14) (j_iconst (2 : Int32) rfl k32_2 (j_goto rfl (j_iret rfl rfl h))))
        exact J_some (fun h => j_if_t rfl (cc_ne_t h14) (j_iconst (3 : Int32) rfl k32_3 (j_iret rfl rfl h)))
      exact J_some (fun h => j_icmp_f rfl (cc_eq_f h11) (j_iconst (4 : Int32) rfl k32_4 (j_iret rfl rfl h)))
    exact J_some (fun h => j_if_f rfl (cc_eq_f h8) (j_iconst (1 : Int32) rfl k32_1 (j_iret rfl rfl h)))
  exact J_some (fun h => j_if_f rfl (cc_eq_f h4) (j_iconst (0 : Int32) rfl k32_0 (j_iret rfl rfl h)))
theorem t_Pa_sortOf {fo : Option Nat} {d : Nat} (hd : 2 ≤ d) {v0 : Nat} {v1 : Int32} {v2 : Int32} {σ σ1 : q_H} {r : Int32} (h : f_Pa_sortOf v0 v1 v2 σ = some (r, σ1)) : q_Rel (q_rf fo) q_Ms d 65 [.ref v0, .int v1, .int v2] σ (.inl (some (.int r))) σ1 := by
  obtain ⟨d, rfl⟩ : ∃ d1, d = d1 + 1 := ⟨d - 1, by omega⟩
  exact q_Rel.of rfl rfl (b_Pa_sortOf hd _ _ _ σ _ _ h ⟨rfl, rfl⟩)

def f_Pa_fullOthers_L6 (v0 : Nat) (v1 : Int32) (v2 : Int32) (v3 : Int32) : Nat → Int32 → Int32 → q_H → Option ((Int32) × q_H)
  | 0, _, _, _ => none
  | n + 1, v4, v5, σ => (q_gi (q_gf σ 8 v0 0)).bind fun x1 => if v5 < x1 then (if v5 = v1 then (f_Pa_fullOthers_L6 v0 v1 v2 v3 n v4 (v5 + (1 : Int32)) σ) else (if v5 = v2 then (f_Pa_fullOthers_L6 v0 v1 v2 v3 n v4 (v5 + (1 : Int32)) σ) else ((q_gr (q_gf σ 8 v0 4)).bind fun x5 => (q_gi (q_ga σ 22 x5 v5)).bind fun x6 => if x6 = v3 then ((q_ob σ 8 v0).bind fun w8 => q_sq (f_Pa_isFull v0 v1 v0 v5 σ) fun x10 σ9 => if x10 = (0 : Int32) then (f_Pa_fullOthers_L6 v0 v1 v2 v3 n v4 (v5 + (1 : Int32)) σ9) else (f_Pa_fullOthers_L6 v0 v1 v2 v3 n (v4 + (1 : Int32)) (v5 + (1 : Int32)) σ9)) else (f_Pa_fullOthers_L6 v0 v1 v2 v3 n v4 (v5 + (1 : Int32)) σ)))) else (some (v4, σ))
set_option maxRecDepth 100000 in
theorem l_Pa_fullOthers_L6 {fo : Option Nat} {d : Nat} (hd : 2 ≤ d + 1) {o : q_O} {σ' : q_H} {E : (Int32) → q_H → Prop} (v0 : Nat) (v1 : Int32) (v2 : Int32) (v3 : Int32) (hX : ∀ (t : Int32) σ1, E (t) σ1 → q_G (q_rf fo) d m_Pa_fullOthers o σ' 58 [none, none, none, none, some (.int t), none] [] σ1)  : ∀ (n : Nat) (v4 : Int32) (v5 : Int32) (σ : q_H), q_J E (f_Pa_fullOthers_L6 v0 v1 v2 v3 n v4 v5 σ) (q_G (q_rf fo) d m_Pa_fullOthers o σ' 6 [some (.ref v0), some (.int v1), some (.int v2), some (.int v3), some (.int v4), some (.int v5)] [] σ)
  | 0, v4, v5, σ => J_none
  | n + 1, v4, v5, σ => by
    unfold f_Pa_fullOthers_L6
    refine J_bind fun x1 hx1 => ?_
    refine q_J.step (fun g => j_iload rfl rfl (j_aload_n rfl rfl (j_gfi rfl hx1 (g)))) ?_
    refine J_ite (fun h2 => ?_) (fun h2 => ?_)
    · refine q_J.step (fun g => j_icmp_f rfl (cc_ge_f h2) (j_iload rfl rfl (j_iload_n rfl rfl (g)))) ?_
      refine J_ite (fun h3 => ?_) (fun h3 => ?_)
      · exact q_J.step (fun g => j_icmp_t rfl (cc_eq_t h3) (j_iinc [some (.ref v0), some (.int v1), some (.int v2), some (.int v3), some (.int v4), some (.int (v5 + (1 : Int32)))] (v5 + (1 : Int32)) rfl rfl (by rw [k32_1]) (Or.inr rfl) rfl (j_goto rfl (g)))) (l_Pa_fullOthers_L6 hd v0 v1 v2 v3 hX n v4 (v5 + (1 : Int32)) σ)
      refine q_J.step (fun g => j_icmp_f rfl (cc_eq_f h3) (j_iload rfl rfl (j_iload_n rfl rfl (g)))) ?_
      refine J_ite (fun h4 => ?_) (fun h4 => ?_)
      · exact q_J.step (fun g => j_icmp_t rfl (cc_eq_t h4) (j_iinc [some (.ref v0), some (.int v1), some (.int v2), some (.int v3), some (.int v4), some (.int (v5 + (1 : Int32)))] (v5 + (1 : Int32)) rfl rfl (by rw [k32_1]) (Or.inr rfl) rfl (j_goto rfl (g)))) (l_Pa_fullOthers_L6 hd v0 v1 v2 v3 hX n v4 (v5 + (1 : Int32)) σ)
      refine J_bind fun x5 hx5 => ?_
      refine J_bind fun x6 hx6 => ?_
      refine q_J.step (fun g => j_icmp_f rfl (cc_eq_f h4) (j_aload_n rfl rfl (j_gfr rfl hx5 (j_iload rfl rfl (j_bal rfl rfl hx6 (j_iload_n rfl rfl (g))))))) ?_
      refine J_ite (fun h7 => ?_) (fun h7 => ?_)
      · refine J_bind fun w8 hw8 => ?_
        refine J_cl fun x10 σ9 hσ9 => ?_
        refine q_J.step (fun g => j_icmp_f rfl (cc_ne_f h7) (j_aload_n rfl rfl (j_iload_n rfl rfl (j_aload_n rfl rfl (j_iload rfl rfl (j_v1 [.ref v0, .int v1, .ref v0, .int v5] [] rfl rfl rfl rfl rfl rfl hw8 (Or.inl rfl) (t_Pa_isFull (by omega) hσ9) (g))))))) ?_
        refine J_ite (fun h11 => ?_) (fun h11 => ?_)
        · exact q_J.step (fun g => j_if_t rfl (cc_eq_t h11) (j_iinc [some (.ref v0), some (.int v1), some (.int v2), some (.int v3), some (.int v4), some (.int (v5 + (1 : Int32)))] (v5 + (1 : Int32)) rfl rfl (by rw [k32_1]) (Or.inr rfl) rfl (j_goto rfl (g)))) (l_Pa_fullOthers_L6 hd v0 v1 v2 v3 hX n v4 (v5 + (1 : Int32)) σ9)
        exact q_J.step (fun g => j_if_f rfl (cc_eq_f h11) (j_iinc [some (.ref v0), some (.int v1), some (.int v2), some (.int v3), some (.int (v4 + (1 : Int32))), some (.int v5)] (v4 + (1 : Int32)) rfl rfl (by rw [k32_1]) (Or.inr rfl) rfl (j_iinc [some (.ref v0), some (.int v1), some (.int v2), some (.int v3), some (.int (v4 + (1 : Int32))), some (.int (v5 + (1 : Int32)))] (v5 + (1 : Int32)) rfl rfl (by rw [k32_1]) (Or.inr rfl) rfl (j_goto rfl (g))))) (l_Pa_fullOthers_L6 hd v0 v1 v2 v3 hX n (v4 + (1 : Int32)) (v5 + (1 : Int32)) σ9)
      exact q_J.step (fun g => j_icmp_t rfl (cc_ne_t h7) (j_iinc [some (.ref v0), some (.int v1), some (.int v2), some (.int v3), some (.int v4), some (.int (v5 + (1 : Int32)))] (v5 + (1 : Int32)) rfl rfl (by rw [k32_1]) (Or.inr rfl) rfl (j_goto rfl (g)))) (l_Pa_fullOthers_L6 hd v0 v1 v2 v3 hX n v4 (v5 + (1 : Int32)) σ)
    exact J_some (fun h => j_icmp_t rfl (cc_ge_t h2) (j_weak (l := [none, none, none, none, some (.int v4), none]) (And.intro (Or.inl rfl) (And.intro (Or.inl rfl) (And.intro (Or.inl rfl) (And.intro (Or.inl rfl) (And.intro (Or.inr rfl) (And.intro (Or.inl rfl) True.intro)))))) (hX _ _ h)))

def f_Pa_fullOthers (v0 : Nat) (v1 : Int32) (v2 : Int32) (v3 : Int32) (σ : q_H) : Option ((Int32) × q_H) := q_sq (f_Pa_fullOthers_L6 v0 v1 v2 v3 q_FU (0 : Int32) (0 : Int32) σ) fun (t12 : Int32) σ13 => some (t12, σ13)
set_option maxRecDepth 100000 in
theorem b_Pa_fullOthers {fo : Option Nat} {d : Nat} (hd : 2 ≤ d + 1) {o : q_O} {σ' : q_H} (v0 : Nat) (v1 : Int32) (v2 : Int32) (v3 : Int32) (σ : q_H) : q_J (fun (r : Int32) (σ1 : q_H) => o = .inl (some (.int r)) ∧ σ' = σ1) (f_Pa_fullOthers v0 v1 v2 v3 σ) (q_G (q_rf fo) d m_Pa_fullOthers o σ' 0 [some (.ref v0), some (.int v1), some (.int v2), some (.int v3), none, none] [] σ) := by
  unfold f_Pa_fullOthers
  refine J_sq (fun (t12 : Int32) (σ13 : q_H) => q_G (q_rf fo) d m_Pa_fullOthers o σ' 58 [none, none, none, none, some (.int t12), none] [] σ13) (q_J.step (fun g => j_iconst (0 : Int32) rfl k32_0 (j_istore [some (.ref v0), some (.int v1), some (.int v2), some (.int v3), some (.int (0 : Int32)), none] rfl rfl (Or.inr rfl) rfl (j_iconst (0 : Int32) rfl k32_0 (j_istore [some (.ref v0), some (.int v1), some (.int v2), some (.int v3), some (.int (0 : Int32)), some (.int (0 : Int32))] rfl rfl (Or.inr rfl) rfl (g))))) (l_Pa_fullOthers_L6 hd v0 v1 v2 v3 (fun _ _ h => h) q_FU (0 : Int32) (0 : Int32) σ)) (fun t12 σ13 => ?_)
  exact J_some (fun h => j_iload rfl rfl (j_iret rfl rfl h))
theorem t_Pa_fullOthers {fo : Option Nat} {d : Nat} (hd : 2 ≤ d) {v0 : Nat} {v1 : Int32} {v2 : Int32} {v3 : Int32} {σ σ1 : q_H} {r : Int32} (h : f_Pa_fullOthers v0 v1 v2 v3 σ = some (r, σ1)) : q_Rel (q_rf fo) q_Ms d 69 [.ref v0, .int v1, .int v2, .int v3] σ (.inl (some (.int r))) σ1 := by
  obtain ⟨d, rfl⟩ : ∃ d1, d = d1 + 1 := ⟨d - 1, by omega⟩
  exact q_Rel.of rfl rfl (b_Pa_fullOthers hd _ _ _ _ σ _ _ h ⟨rfl, rfl⟩)

def f_Pa_hasParentOf (v0 : Nat) (v1 : Nat) (v2 : Int32) (σ : q_H) : Option ((Int32) × q_H) := (q_gr (q_gf σ 8 v1 2)).bind fun x1 => (q_gl' (q_ga σ 21 x1 v2)).bind fun x2 => q_sq (if x2 = (0 : Int64) then (some ((-1 : Int32), σ)) else ((q_gr (q_gf σ 8 v1 2)).bind fun x4 => (q_gl' (q_ga σ 21 x4 v2)).bind fun x5 => (q_ob σ 8 v0).bind fun w6 => q_sq (f_Pa_lineOf v0 x5 σ) fun x8 σ7 => some (x8, σ7))) fun (t9 : Int32) σ10 => (q_gr (q_gf σ10 8 v1 3)).bind fun x11 => (q_gl' (q_ga σ10 21 x11 v2)).bind fun x12 => q_sq (if x12 = (0 : Int64) then (some ((-1 : Int32), σ10)) else ((q_gr (q_gf σ10 8 v1 3)).bind fun x14 => (q_gl' (q_ga σ10 21 x14 v2)).bind fun x15 => (q_ob σ10 8 v0).bind fun w16 => q_sq (f_Pa_lineOf v0 x15 σ10) fun x18 σ17 => some (x18, σ17))) fun (t19 : Int32) σ20 => if t9 = (-1 : Int32) then (if t19 = (-1 : Int32) then (some ((0 : Int32), σ20)) else ((q_gr (q_gf σ20 8 v0 4)).bind fun x23 => (q_gi (q_ga σ20 22 x23 t19)).bind fun x24 => if x24 = (0 : Int32) then (some ((0 : Int32), σ20)) else (some ((1 : Int32), σ20)))) else ((q_gr (q_gf σ20 8 v0 4)).bind fun x26 => (q_gi (q_ga σ20 22 x26 t9)).bind fun x27 => if x27 = (0 : Int32) then (some ((1 : Int32), σ20)) else (if t19 = (-1 : Int32) then (some ((0 : Int32), σ20)) else ((q_gr (q_gf σ20 8 v0 4)).bind fun x30 => (q_gi (q_ga σ20 22 x30 t19)).bind fun x31 => if x31 = (0 : Int32) then (some ((0 : Int32), σ20)) else (some ((1 : Int32), σ20)))))
set_option maxRecDepth 100000 in
theorem b_Pa_hasParentOf {fo : Option Nat} {d : Nat} (hd : 2 ≤ d + 1) {o : q_O} {σ' : q_H} (v0 : Nat) (v1 : Nat) (v2 : Int32) (σ : q_H) : q_J (fun (r : Int32) (σ1 : q_H) => o = .inl (some (.int r)) ∧ σ' = σ1) (f_Pa_hasParentOf v0 v1 v2 σ) (q_G (q_rf fo) d m_Pa_hasParentOf o σ' 0 [some (.ref v0), some (.ref v1), some (.int v2), none, none] [] σ) := by
  unfold f_Pa_hasParentOf
  refine J_bind fun x1 hx1 => ?_
  refine J_bind fun x2 hx2 => ?_
  refine q_J.step (fun g => j_aload_n rfl rfl (j_gfr rfl hx1 (j_iload_n rfl rfl (j_lal rfl hx2 (j_lconst (0 : Int64) rfl kl_0 (j_lcmp rfl (g))))))) ?_
  refine J_sq (fun (t9 : Int32) (σ10 : q_H) => q_G (q_rf fo) d m_Pa_hasParentOf o σ' 25 [some (.ref v0), some (.ref v1), some (.int v2), none, none] [.int t9] σ10) ?_ (fun t9 σ10 => ?_)
  · refine J_ite (fun h3 => ?_) (fun h3 => ?_)
    · exact J_some (fun h => j_if_f rfl (lc_ne_f h3) (j_iconst (-1 : Int32) rfl k32_m1 (j_goto rfl (h))))
    refine J_bind fun x4 hx4 => ?_
    refine J_bind fun x5 hx5 => ?_
    refine J_bind fun w6 hw6 => ?_
    refine J_cl fun x8 σ7 hσ7 => ?_
    exact J_some (fun h => j_if_t rfl (lc_ne_t h3) (j_aload_n rfl rfl (j_aload_n rfl rfl (j_gfr rfl hx4 (j_iload_n rfl rfl (j_lal rfl hx5 (j_v1 [.ref v0, .long x5] [] rfl rfl rfl rfl rfl rfl hw6 (Or.inl rfl) (t_Pa_lineOf (by omega) hσ7) (h))))))))
  refine J_bind fun x11 hx11 => ?_
  refine J_bind fun x12 hx12 => ?_
  refine q_J.step (fun g => j_istore_n [some (.ref v0), some (.ref v1), some (.int v2), some (.int t9), none] rfl rfl (Or.inr rfl) rfl (j_aload_n rfl rfl (j_gfr rfl hx11 (j_iload_n rfl rfl (j_lal rfl hx12 (j_lconst (0 : Int64) rfl kl_0 (j_lcmp rfl (g)))))))) ?_
  refine J_sq (fun (t19 : Int32) (σ20 : q_H) => q_G (q_rf fo) d m_Pa_hasParentOf o σ' 51 [some (.ref v0), none, none, some (.int t9), none] [.int t19] σ20) ?_ (fun t19 σ20 => ?_)
  · refine J_ite (fun h13 => ?_) (fun h13 => ?_)
    · exact J_some (fun h => j_if_f rfl (lc_ne_f h13) (j_iconst (-1 : Int32) rfl k32_m1 (j_goto rfl (j_weak (l := [some (.ref v0), none, none, some (.int t9), none]) (And.intro (Or.inr rfl) (And.intro (Or.inl rfl) (And.intro (Or.inl rfl) (And.intro (Or.inr rfl) (And.intro (Or.inr rfl) True.intro))))) (h)))))
    refine J_bind fun x14 hx14 => ?_
    refine J_bind fun x15 hx15 => ?_
    refine J_bind fun w16 hw16 => ?_
    refine J_cl fun x18 σ17 hσ17 => ?_
    exact J_some (fun h => j_if_t rfl (lc_ne_t h13) (j_aload_n rfl rfl (j_aload_n rfl rfl (j_gfr rfl hx14 (j_iload_n rfl rfl (j_lal rfl hx15 (j_v1 [.ref v0, .long x15] [] rfl rfl rfl rfl rfl rfl hw16 (Or.inl rfl) (t_Pa_lineOf (by omega) hσ17) (j_weak (l := [some (.ref v0), none, none, some (.int t9), none]) (And.intro (Or.inr rfl) (And.intro (Or.inl rfl) (And.intro (Or.inl rfl) (And.intro (Or.inr rfl) (And.intro (Or.inr rfl) True.intro))))) (h)))))))))
  refine q_J.step (fun g => j_istore [some (.ref v0), none, none, some (.int t9), some (.int t19)] rfl rfl (Or.inr rfl) rfl (j_iload_n rfl rfl (j_iconst (-1 : Int32) rfl k32_m1 (g)))) ?_
  refine J_ite (fun h21 => ?_) (fun h21 => ?_)
  · refine q_J.step (fun g => j_icmp_t rfl (cc_eq_t h21) (j_iload rfl rfl (j_iconst (-1 : Int32) rfl k32_m1 (g)))) ?_
    refine J_ite (fun h22 => ?_) (fun h22 => ?_)
    · exact J_some (fun h => j_icmp_t rfl (cc_eq_t h22) (j_iconst (0 : Int32) rfl k32_0 (j_iret rfl (q_zr (Or.inl rfl)) h)))
    refine J_bind fun x23 hx23 => ?_
    refine J_bind fun x24 hx24 => ?_
    refine q_J.step (fun g => j_icmp_f rfl (cc_eq_f h22) (j_aload_n rfl rfl (j_gfr rfl hx23 (j_iload rfl rfl (j_bal rfl rfl hx24 (g)))))) ?_
    refine J_ite (fun h25 => ?_) (fun h25 => ?_)
    · exact J_some (fun h => j_if_t rfl (cc_eq_t h25) (j_iconst (0 : Int32) rfl k32_0 (j_iret rfl (q_zr (Or.inl rfl)) h)))
    exact J_some (fun h => j_if_f rfl (cc_eq_f h25) (j_iconst (1 : Int32) rfl k32_1 (j_goto rfl (j_iret rfl (q_zr (Or.inr rfl)) h))))
  refine J_bind fun x26 hx26 => ?_
  refine J_bind fun x27 hx27 => ?_
  refine q_J.step (fun g => j_icmp_f rfl (cc_eq_f h21) (j_aload_n rfl rfl (j_gfr rfl hx26 (j_iload_n rfl rfl (j_bal rfl rfl hx27 (g)))))) ?_
  refine J_ite (fun h28 => ?_) (fun h28 => ?_)
  · exact J_some (fun h => j_if_t rfl (cc_eq_t h28) (j_iconst (1 : Int32) rfl k32_1 (j_goto rfl (j_iret rfl (q_zr (Or.inr rfl)) h))))
  refine q_J.step (fun g => j_if_f rfl (cc_eq_f h28) (j_iload rfl rfl (j_iconst (-1 : Int32) rfl k32_m1 (g)))) ?_
  refine J_ite (fun h29 => ?_) (fun h29 => ?_)
  · exact J_some (fun h => j_icmp_t rfl (cc_eq_t h29) (j_iconst (0 : Int32) rfl k32_0 (j_iret rfl (q_zr (Or.inl rfl)) h)))
  refine J_bind fun x30 hx30 => ?_
  refine J_bind fun x31 hx31 => ?_
  refine q_J.step (fun g => j_icmp_f rfl (cc_eq_f h29) (j_aload_n rfl rfl (j_gfr rfl hx30 (j_iload rfl rfl (j_bal rfl rfl hx31 (g)))))) ?_
  refine J_ite (fun h32 => ?_) (fun h32 => ?_)
  · exact J_some (fun h => j_if_t rfl (cc_eq_t h32) (j_iconst (0 : Int32) rfl k32_0 (j_iret rfl (q_zr (Or.inl rfl)) h)))
  exact J_some (fun h => j_if_f rfl (cc_eq_f h32) (j_iconst (1 : Int32) rfl k32_1 (j_goto rfl (j_iret rfl (q_zr (Or.inr rfl)) h))))
theorem t_Pa_hasParentOf {fo : Option Nat} {d : Nat} (hd : 2 ≤ d) {v0 : Nat} {v1 : Nat} {v2 : Int32} {σ σ1 : q_H} {r : Int32} (h : f_Pa_hasParentOf v0 v1 v2 σ = some (r, σ1)) : q_Rel (q_rf fo) q_Ms d 71 [.ref v0, .ref v1, .int v2] σ (.inl (some (.int r))) σ1 := by
  obtain ⟨d, rfl⟩ : ∃ d1, d = d1 + 1 := ⟨d - 1, by omega⟩
  exact q_Rel.of rfl rfl (b_Pa_hasParentOf hd _ _ _ σ _ _ h ⟨rfl, rfl⟩)

def f_Sr_isName (v0 : Nat) (σ : q_H) : Option ((Int32) × q_H) := (q_gr (q_gf σ 7 v0 0)).bind fun x1 => (q_gi (q_gf σ 1 x1 3)).bind fun x2 => if x2 = (1 : Int32) then ((q_gr (q_gf σ 7 v0 0)).bind fun x4 => (q_gr (q_gf σ 7 v0 1)).bind fun x5 => (q_ob σ 1 x4).bind fun w6 => q_sq (f_Ta_wordIn x4 x5 σ) fun x8 σ7 => if x8 = (-1 : Int32) then (some ((1 : Int32), σ7)) else (some ((0 : Int32), σ7))) else (some ((0 : Int32), σ))
set_option maxRecDepth 100000 in
theorem b_Sr_isName {fo : Option Nat} {d : Nat} (hd : 2 ≤ d + 1) {o : q_O} {σ' : q_H} (v0 : Nat) (σ : q_H) : q_J (fun (r : Int32) (σ1 : q_H) => o = .inl (some (.int r)) ∧ σ' = σ1) (f_Sr_isName v0 σ) (q_G (q_rf fo) d m_Sr_isName o σ' 0 [some (.ref v0)] [] σ) := by
  unfold f_Sr_isName
  refine J_bind fun x1 hx1 => ?_
  refine J_bind fun x2 hx2 => ?_
  refine q_J.step (fun g => j_aload_n rfl rfl (j_gfr rfl hx1 (j_gfi rfl hx2 (j_iconst (1 : Int32) rfl k32_1 (g))))) ?_
  refine J_ite (fun h3 => ?_) (fun h3 => ?_)
  · refine J_bind fun x4 hx4 => ?_
    refine J_bind fun x5 hx5 => ?_
    refine J_bind fun w6 hw6 => ?_
    refine J_cl fun x8 σ7 hσ7 => ?_
    refine q_J.step (fun g => j_icmp_f rfl (cc_ne_f h3) (j_aload_n rfl rfl (j_gfr rfl hx4 (j_aload_n rfl rfl (j_gfr rfl hx5 (j_v1 [.ref x4, .ref x5] [] rfl rfl rfl rfl rfl rfl hw6 (Or.inl rfl) (t_Ta_wordIn (by omega) hσ7) (j_iconst (-1 : Int32) rfl k32_m1 (g)))))))) ?_
    refine J_ite (fun h9 => ?_) (fun h9 => ?_)
    · exact J_some (fun h => j_icmp_f rfl (cc_ne_f h9) (j_iconst (1 : Int32) rfl k32_1 (j_goto rfl (j_iret rfl (q_zr (Or.inr rfl)) h))))
    exact J_some (fun h => j_icmp_t rfl (cc_ne_t h9) (j_iconst (0 : Int32) rfl k32_0 (j_iret rfl (q_zr (Or.inl rfl)) h)))
  exact J_some (fun h => j_icmp_t rfl (cc_ne_t h3) (j_iconst (0 : Int32) rfl k32_0 (j_iret rfl (q_zr (Or.inl rfl)) h)))
theorem t_Sr_isName {fo : Option Nat} {d : Nat} (hd : 2 ≤ d) {v0 : Nat} {σ σ1 : q_H} {r : Int32} (h : f_Sr_isName v0 σ = some (r, σ1)) : q_Rel (q_rf fo) q_Ms d 75 [.ref v0] σ (.inl (some (.int r))) σ1 := by
  obtain ⟨d, rfl⟩ : ∃ d1, d = d1 + 1 := ⟨d - 1, by omega⟩
  exact q_Rel.of rfl rfl (b_Sr_isName hd _ σ _ _ h ⟨rfl, rfl⟩)

def f_Sr_takeName (v0 : Nat) (v1 : Int32) (v2 : Int32) (σ : q_H) : Option ((Int32) × q_H) := if v2 = (0 : Int32) then ((q_gr (q_gf σ 7 v0 2)).bind fun x2 => (q_gr (q_gf σ 8 x2 2)).bind fun x3 => (q_gr (q_gf σ 7 v0 0)).bind fun x4 => (q_gl' (q_gf σ 1 x4 5)).bind fun x5 => (q_sa σ 21 x3 v1 (.long x5)).bind fun σ6 => some ((0 : Int32), σ6)) else (if v2 = (1 : Int32) then ((q_gr (q_gf σ 7 v0 2)).bind fun x8 => (q_gr (q_gf σ 8 x8 3)).bind fun x9 => (q_gr (q_gf σ 7 v0 0)).bind fun x10 => (q_gl' (q_gf σ 1 x10 5)).bind fun x11 => (q_sa σ 21 x9 v1 (.long x11)).bind fun σ12 => some ((0 : Int32), σ12)) else ((q_gr (q_gf σ 7 v0 2)).bind fun x13 => (q_gr (q_gf σ 7 v0 0)).bind fun x14 => (q_gl' (q_gf σ 1 x14 5)).bind fun x15 => (q_ob σ 8 x13).bind fun w16 => q_sq (f_Pa_lineOf x13 x15 σ) fun x18 σ17 => if x18 = (-1 : Int32) then ((q_gr (q_gf σ17 7 v0 0)).bind fun x20 => (q_ob σ17 1 x20).bind fun w21 => q_sq (f_Ta_fault x20 (2 : Int32) σ17) fun x23 σ22 => some (x23, σ22)) else (if v2 = (2 : Int32) then ((q_gr (q_gf σ17 7 v0 2)).bind fun x25 => (q_gr (q_gf σ17 8 x25 4)).bind fun x26 => (q_gi (q_ga σ17 22 x26 x18)).bind fun x27 => if x27 = (0 : Int32) then (if v2 = (3 : Int32) then ((q_gr (q_gf σ17 7 v0 2)).bind fun x30 => (q_gr (q_gf σ17 8 x30 8)).bind fun x31 => (q_sa σ17 20 x31 v1 (.int x18)).bind fun σ32 => some ((0 : Int32), σ32)) else ((q_gr (q_gf σ17 7 v0 2)).bind fun x33 => (q_ob σ17 8 x33).bind fun w34 => q_sq (f_Pa_hasWife x33 x18 σ17) fun x36 σ35 => if x36 = (0 : Int32) then ((q_gr (q_gf σ35 7 v0 2)).bind fun x38 => (q_gr (q_gf σ35 8 x38 7)).bind fun x39 => (q_sa σ35 20 x39 v1 (.int x18)).bind fun σ40 => some ((0 : Int32), σ40)) else ((q_gr (q_gf σ35 7 v0 0)).bind fun x41 => (q_ob σ35 1 x41).bind fun w42 => q_sq (f_Ta_fault x41 (3 : Int32) σ35) fun x44 σ43 => some (x44, σ43)))) else ((q_gr (q_gf σ17 7 v0 0)).bind fun x45 => (q_ob σ17 1 x45).bind fun w46 => q_sq (f_Ta_fault x45 (2 : Int32) σ17) fun x48 σ47 => some (x48, σ47))) else (if v2 = (3 : Int32) then ((q_gr (q_gf σ17 7 v0 2)).bind fun x50 => (q_gr (q_gf σ17 8 x50 8)).bind fun x51 => (q_sa σ17 20 x51 v1 (.int x18)).bind fun σ52 => some ((0 : Int32), σ52)) else ((q_gr (q_gf σ17 7 v0 2)).bind fun x53 => (q_ob σ17 8 x53).bind fun w54 => q_sq (f_Pa_hasWife x53 x18 σ17) fun x56 σ55 => if x56 = (0 : Int32) then ((q_gr (q_gf σ55 7 v0 2)).bind fun x58 => (q_gr (q_gf σ55 8 x58 7)).bind fun x59 => (q_sa σ55 20 x59 v1 (.int x18)).bind fun σ60 => some ((0 : Int32), σ60)) else ((q_gr (q_gf σ55 7 v0 0)).bind fun x61 => (q_ob σ55 1 x61).bind fun w62 => q_sq (f_Ta_fault x61 (3 : Int32) σ55) fun x64 σ63 => some (x64, σ63)))))))
set_option maxRecDepth 100000 in
theorem b_Sr_takeName {fo : Option Nat} {d : Nat} (hd : 2 ≤ d + 1) {o : q_O} {σ' : q_H} (v0 : Nat) (v1 : Int32) (v2 : Int32) (σ : q_H) : q_J (fun (r : Int32) (σ1 : q_H) => o = .inl (some (.int r)) ∧ σ' = σ1) (f_Sr_takeName v0 v1 v2 σ) (q_G (q_rf fo) d m_Sr_takeName o σ' 0 [some (.ref v0), some (.int v1), some (.int v2), none] [] σ) := by
  unfold f_Sr_takeName
  refine q_J.step (fun g => j_iload_n rfl rfl (g)) ?_
  refine J_ite (fun h1 => ?_) (fun h1 => ?_)
  · refine J_bind fun x2 hx2 => ?_
    refine J_bind fun x3 hx3 => ?_
    refine J_bind fun x4 hx4 => ?_
    refine J_bind fun x5 hx5 => ?_
    refine J_bind fun σ6 hσ6 => ?_
    exact J_some (fun h => j_if_f rfl (cc_ne_f h1) (j_aload_n rfl rfl (j_gfr rfl hx2 (j_gfr rfl hx3 (j_iload_n rfl rfl (j_aload_n rfl rfl (j_gfr rfl hx4 (j_gfl rfl hx5 (j_las rfl hσ6 (j_iconst (0 : Int32) rfl k32_0 (j_iret rfl rfl h)))))))))))
  refine q_J.step (fun g => j_if_t rfl (cc_ne_t h1) (j_iload_n rfl rfl (j_iconst (1 : Int32) rfl k32_1 (g)))) ?_
  refine J_ite (fun h7 => ?_) (fun h7 => ?_)
  · refine J_bind fun x8 hx8 => ?_
    refine J_bind fun x9 hx9 => ?_
    refine J_bind fun x10 hx10 => ?_
    refine J_bind fun x11 hx11 => ?_
    refine J_bind fun σ12 hσ12 => ?_
    exact J_some (fun h => j_icmp_f rfl (cc_ne_f h7) (j_aload_n rfl rfl (j_gfr rfl hx8 (j_gfr rfl hx9 (j_iload_n rfl rfl (j_aload_n rfl rfl (j_gfr rfl hx10 (j_gfl rfl hx11 (j_las rfl hσ12 (j_iconst (0 : Int32) rfl k32_0 (j_iret rfl rfl h)))))))))))
  refine J_bind fun x13 hx13 => ?_
  refine J_bind fun x14 hx14 => ?_
  refine J_bind fun x15 hx15 => ?_
  refine J_bind fun w16 hw16 => ?_
  refine J_cl fun x18 σ17 hσ17 => ?_
  refine q_J.step (fun g => j_icmp_t rfl (cc_ne_t h7) (j_aload_n rfl rfl (j_gfr rfl hx13 (j_aload_n rfl rfl (j_gfr rfl hx14 (j_gfl rfl hx15 (j_v1 [.ref x13, .long x15] [] rfl rfl rfl rfl rfl rfl hw16 (Or.inl rfl) (t_Pa_lineOf (by omega) hσ17) (j_istore_n [some (.ref v0), some (.int v1), some (.int v2), some (.int x18)] rfl rfl (Or.inr rfl) rfl (j_iload_n rfl rfl (j_iconst (-1 : Int32) rfl k32_m1 (g))))))))))) ?_
  refine J_ite (fun h19 => ?_) (fun h19 => ?_)
  · refine J_bind fun x20 hx20 => ?_
    refine J_bind fun w21 hw21 => ?_
    refine J_cl fun x23 σ22 hσ22 => ?_
    exact J_some (fun h => j_icmp_t rfl (cc_eq_t h19) (j_aload_n rfl rfl (j_gfr rfl hx20 (j_iconst (2 : Int32) rfl k32_2 (j_v1 [.ref x20, .int (2 : Int32)] [] rfl rfl rfl rfl rfl rfl hw21 (Or.inl rfl) (t_Ta_fault (by omega) hσ22) (j_iret rfl rfl h))))))
  refine q_J.step (fun g => j_icmp_f rfl (cc_eq_f h19) (j_iload_n rfl rfl (j_iconst (2 : Int32) rfl k32_2 (g)))) ?_
  refine J_ite (fun h24 => ?_) (fun h24 => ?_)
  · refine J_bind fun x25 hx25 => ?_
    refine J_bind fun x26 hx26 => ?_
    refine J_bind fun x27 hx27 => ?_
    refine q_J.step (fun g => j_icmp_f rfl (cc_ne_f h24) (j_aload_n rfl rfl (j_gfr rfl hx25 (j_gfr rfl hx26 (j_iload_n rfl rfl (j_bal rfl rfl hx27 (g))))))) ?_
    refine J_ite (fun h28 => ?_) (fun h28 => ?_)
    · refine q_J.step (fun g => j_if_t rfl (cc_eq_t h28) (j_iload_n rfl rfl (j_iconst (3 : Int32) rfl k32_3 (g)))) ?_
      refine J_ite (fun h29 => ?_) (fun h29 => ?_)
      · refine J_bind fun x30 hx30 => ?_
        refine J_bind fun x31 hx31 => ?_
        refine J_bind fun σ32 hσ32 => ?_
        exact J_some (fun h => j_icmp_f rfl (cc_ne_f h29) (j_aload_n rfl rfl (j_gfr rfl hx30 (j_gfr rfl hx31 (j_iload_n rfl rfl (j_iload_n rfl rfl (j_ias rfl hσ32 (j_iconst (0 : Int32) rfl k32_0 (j_iret rfl rfl h)))))))))
      refine J_bind fun x33 hx33 => ?_
      refine J_bind fun w34 hw34 => ?_
      refine J_cl fun x36 σ35 hσ35 => ?_
      refine q_J.step (fun g => j_icmp_t rfl (cc_ne_t h29) (j_aload_n rfl rfl (j_gfr rfl hx33 (j_iload_n rfl rfl (j_v1 [.ref x33, .int x18] [] rfl rfl rfl rfl rfl rfl hw34 (Or.inl rfl) (t_Pa_hasWife (by omega) hσ35) (g)))))) ?_
      refine J_ite (fun h37 => ?_) (fun h37 => ?_)
      · refine J_bind fun x38 hx38 => ?_
        refine J_bind fun x39 hx39 => ?_
        refine J_bind fun σ40 hσ40 => ?_
        exact J_some (fun h => j_if_t rfl (cc_eq_t h37) (j_aload_n rfl rfl (j_gfr rfl hx38 (j_gfr rfl hx39 (j_iload_n rfl rfl (j_iload_n rfl rfl (j_ias rfl hσ40 (j_iconst (0 : Int32) rfl k32_0 (j_iret rfl rfl h)))))))))
      refine J_bind fun x41 hx41 => ?_
      refine J_bind fun w42 hw42 => ?_
      refine J_cl fun x44 σ43 hσ43 => ?_
      exact J_some (fun h => j_if_f rfl (cc_eq_f h37) (j_aload_n rfl rfl (j_gfr rfl hx41 (j_iconst (3 : Int32) rfl k32_3 (j_v1 [.ref x41, .int (3 : Int32)] [] rfl rfl rfl rfl rfl rfl hw42 (Or.inl rfl) (t_Ta_fault (by omega) hσ43) (j_iret rfl rfl h))))))
    refine J_bind fun x45 hx45 => ?_
    refine J_bind fun w46 hw46 => ?_
    refine J_cl fun x48 σ47 hσ47 => ?_
    exact J_some (fun h => j_if_f rfl (cc_eq_f h28) (j_aload_n rfl rfl (j_gfr rfl hx45 (j_iconst (2 : Int32) rfl k32_2 (j_v1 [.ref x45, .int (2 : Int32)] [] rfl rfl rfl rfl rfl rfl hw46 (Or.inl rfl) (t_Ta_fault (by omega) hσ47) (j_iret rfl rfl h))))))
  refine q_J.step (fun g => j_icmp_t rfl (cc_ne_t h24) (j_iload_n rfl rfl (j_iconst (3 : Int32) rfl k32_3 (g)))) ?_
  refine J_ite (fun h49 => ?_) (fun h49 => ?_)
  · refine J_bind fun x50 hx50 => ?_
    refine J_bind fun x51 hx51 => ?_
    refine J_bind fun σ52 hσ52 => ?_
    exact J_some (fun h => j_icmp_f rfl (cc_ne_f h49) (j_aload_n rfl rfl (j_gfr rfl hx50 (j_gfr rfl hx51 (j_iload_n rfl rfl (j_iload_n rfl rfl (j_ias rfl hσ52 (j_iconst (0 : Int32) rfl k32_0 (j_iret rfl rfl h)))))))))
  refine J_bind fun x53 hx53 => ?_
  refine J_bind fun w54 hw54 => ?_
  refine J_cl fun x56 σ55 hσ55 => ?_
  refine q_J.step (fun g => j_icmp_t rfl (cc_ne_t h49) (j_aload_n rfl rfl (j_gfr rfl hx53 (j_iload_n rfl rfl (j_v1 [.ref x53, .int x18] [] rfl rfl rfl rfl rfl rfl hw54 (Or.inl rfl) (t_Pa_hasWife (by omega) hσ55) (g)))))) ?_
  refine J_ite (fun h57 => ?_) (fun h57 => ?_)
  · refine J_bind fun x58 hx58 => ?_
    refine J_bind fun x59 hx59 => ?_
    refine J_bind fun σ60 hσ60 => ?_
    exact J_some (fun h => j_if_t rfl (cc_eq_t h57) (j_aload_n rfl rfl (j_gfr rfl hx58 (j_gfr rfl hx59 (j_iload_n rfl rfl (j_iload_n rfl rfl (j_ias rfl hσ60 (j_iconst (0 : Int32) rfl k32_0 (j_iret rfl rfl h)))))))))
  refine J_bind fun x61 hx61 => ?_
  refine J_bind fun w62 hw62 => ?_
  refine J_cl fun x64 σ63 hσ63 => ?_
  exact J_some (fun h => j_if_f rfl (cc_eq_f h57) (j_aload_n rfl rfl (j_gfr rfl hx61 (j_iconst (3 : Int32) rfl k32_3 (j_v1 [.ref x61, .int (3 : Int32)] [] rfl rfl rfl rfl rfl rfl hw62 (Or.inl rfl) (t_Ta_fault (by omega) hσ63) (j_iret rfl rfl h))))))
theorem t_Sr_takeName {fo : Option Nat} {d : Nat} (hd : 2 ≤ d) {v0 : Nat} {v1 : Int32} {v2 : Int32} {σ σ1 : q_H} {r : Int32} (h : f_Sr_takeName v0 v1 v2 σ = some (r, σ1)) : q_Rel (q_rf fo) q_Ms d 78 [.ref v0, .int v1, .int v2] σ (.inl (some (.int r))) σ1 := by
  obtain ⟨d, rfl⟩ : ∃ d1, d = d1 + 1 := ⟨d - 1, by omega⟩
  exact q_Rel.of rfl rfl (b_Sr_takeName hd _ _ _ σ _ _ h ⟨rfl, rfl⟩)

def f_Sf_isTold (v0 : Nat) (v1 : Int32) (σ : q_H) : Option ((Int32) × q_H) := q_sq (f_Rs_isFrom (0 : Int32) v1 (23 : Int32) σ) fun x2 σ1 => if x2 = (0 : Int32) then (some ((0 : Int32), σ1)) else ((q_gr (q_gf σ1 2 v0 0)).bind fun x4 => (q_gi (q_ga σ1 22 x4 v1)).bind fun x5 => if x5 = (0 : Int32) then (some ((0 : Int32), σ1)) else (some ((1 : Int32), σ1)))
set_option maxRecDepth 100000 in
theorem b_Sf_isTold {fo : Option Nat} {d : Nat} (hd : 2 ≤ d + 1) {o : q_O} {σ' : q_H} (v0 : Nat) (v1 : Int32) (σ : q_H) : q_J (fun (r : Int32) (σ1 : q_H) => o = .inl (some (.int r)) ∧ σ' = σ1) (f_Sf_isTold v0 v1 σ) (q_G (q_rf fo) d m_Sf_isTold o σ' 0 [some (.ref v0), some (.int v1)] [] σ) := by
  unfold f_Sf_isTold
  refine J_cl fun x2 σ1 hσ1 => ?_
  refine q_J.step (fun g => j_iconst (0 : Int32) rfl k32_0 (j_iload_n rfl rfl (j_bipush (23 : Int32) rfl kb_23 (j_s1 [.int (0 : Int32), .int v1, .int (23 : Int32)] [] rfl rfl rfl rfl rfl (t_Rs_isFrom (by omega) hσ1) (g))))) ?_
  refine J_ite (fun h3 => ?_) (fun h3 => ?_)
  · exact J_some (fun h => j_if_t rfl (cc_eq_t h3) (j_iconst (0 : Int32) rfl k32_0 (j_iret rfl (q_zr (Or.inl rfl)) h)))
  refine J_bind fun x4 hx4 => ?_
  refine J_bind fun x5 hx5 => ?_
  refine q_J.step (fun g => j_if_f rfl (cc_eq_f h3) (j_aload_n rfl rfl (j_gfr rfl hx4 (j_iload_n rfl rfl (j_bal rfl rfl hx5 (g)))))) ?_
  refine J_ite (fun h6 => ?_) (fun h6 => ?_)
  · exact J_some (fun h => j_if_t rfl (cc_eq_t h6) (j_iconst (0 : Int32) rfl k32_0 (j_iret rfl (q_zr (Or.inl rfl)) h)))
  exact J_some (fun h => j_if_f rfl (cc_eq_f h6) (j_iconst (1 : Int32) rfl k32_1 (j_goto rfl (j_iret rfl (q_zr (Or.inr rfl)) h))))
theorem t_Sf_isTold {fo : Option Nat} {d : Nat} (hd : 2 ≤ d) {v0 : Nat} {v1 : Int32} {σ σ1 : q_H} {r : Int32} (h : f_Sf_isTold v0 v1 σ = some (r, σ1)) : q_Rel (q_rf fo) q_Ms d 81 [.ref v0, .int v1] σ (.inl (some (.int r))) σ1 := by
  obtain ⟨d, rfl⟩ : ∃ d1, d = d1 + 1 := ⟨d - 1, by omega⟩
  exact q_Rel.of rfl rfl (b_Sf_isTold hd _ _ σ _ _ h ⟨rfl, rfl⟩)

def f_Sf_pageOf (v0 : Nat) (v1 : Int32) (σ : q_H) : Option ((Option Nat) × q_H) := q_sq (f_Rs_isFrom (0 : Int32) v1 (23 : Int32) σ) fun x2 σ1 => if x2 = (0 : Int32) then (some (none, σ1)) else ((q_gr (q_gf σ1 2 v0 4)).bind fun x4 => (q_go (q_ga σ1 25 x4 v1)).bind fun x5 => some (x5, σ1))
set_option maxRecDepth 100000 in
theorem b_Sf_pageOf {fo : Option Nat} {d : Nat} (hd : 2 ≤ d + 1) {o : q_O} {σ' : q_H} (v0 : Nat) (v1 : Int32) (σ : q_H) : q_J (fun (r : Option Nat) (σ1 : q_H) => o = .inl (some (q_rf r)) ∧ σ' = σ1) (f_Sf_pageOf v0 v1 σ) (q_G (q_rf fo) d m_Sf_pageOf o σ' 0 [some (.ref v0), some (.int v1)] [] σ) := by
  unfold f_Sf_pageOf
  refine J_cl fun x2 σ1 hσ1 => ?_
  refine q_J.step (fun g => j_iconst (0 : Int32) rfl k32_0 (j_iload_n rfl rfl (j_bipush (23 : Int32) rfl kb_23 (j_s1 [.int (0 : Int32), .int v1, .int (23 : Int32)] [] rfl rfl rfl rfl rfl (t_Rs_isFrom (by omega) hσ1) (g))))) ?_
  refine J_ite (fun h3 => ?_) (fun h3 => ?_)
  · exact J_some (fun h => j_if_t rfl (cc_eq_t h3) (j_null rfl (j_aret (x := none) rfl (Or.inl ⟨_, rfl⟩) h)))
  refine J_bind fun x4 hx4 => ?_
  refine J_bind fun x5 hx5 => ?_
  exact J_some (fun h => j_if_f rfl (cc_eq_f h3) (j_aload_n rfl rfl (j_gfr rfl hx4 (j_iload_n rfl rfl (j_aalO rfl rfl hx5 (j_goto rfl (j_aret (x := x5) rfl (Or.inl ⟨_, rfl⟩) h)))))))
theorem t_Sf_pageOf {fo : Option Nat} {d : Nat} (hd : 2 ≤ d) {v0 : Nat} {v1 : Int32} {σ σ1 : q_H} {r : Option Nat} (h : f_Sf_pageOf v0 v1 σ = some (r, σ1)) : q_Rel (q_rf fo) q_Ms d 82 [.ref v0, .int v1] σ (.inl (some (q_rf r))) σ1 := by
  obtain ⟨d, rfl⟩ : ∃ d1, d = d1 + 1 := ⟨d - 1, by omega⟩
  exact q_Rel.of rfl rfl (b_Sf_pageOf hd _ _ σ _ _ h ⟨rfl, rfl⟩)

def f_Sf_firstBorn (v0 : Nat) (v1 : Int32) (v2 : Nat) (v3 : Int32) (σ : q_H) : Option ((Int32) × q_H) := (q_ob σ 2 v0).bind fun w1 => q_sq (f_Sf_yearOf v0 v1 σ) fun x3 σ2 => (q_gr (q_gf σ2 8 v2 5)).bind fun x4 => (q_gi (q_ga σ2 20 x4 v3)).bind fun x5 => (q_ob σ2 8 v2).bind fun w6 => q_sq (f_Pa_slack v2 v3 σ2) fun x8 σ7 => some (((x3 - x5) - x8), σ7)
set_option maxRecDepth 100000 in
theorem b_Sf_firstBorn {fo : Option Nat} {d : Nat} (hd : 2 ≤ d + 1) {o : q_O} {σ' : q_H} (v0 : Nat) (v1 : Int32) (v2 : Nat) (v3 : Int32) (σ : q_H) : q_J (fun (r : Int32) (σ1 : q_H) => o = .inl (some (.int r)) ∧ σ' = σ1) (f_Sf_firstBorn v0 v1 v2 v3 σ) (q_G (q_rf fo) d m_Sf_firstBorn o σ' 0 [some (.ref v0), some (.int v1), some (.ref v2), some (.int v3)] [] σ) := by
  unfold f_Sf_firstBorn
  refine J_bind fun w1 hw1 => ?_
  refine J_cl fun x3 σ2 hσ2 => ?_
  refine J_bind fun x4 hx4 => ?_
  refine J_bind fun x5 hx5 => ?_
  refine J_bind fun w6 hw6 => ?_
  refine J_cl fun x8 σ7 hσ7 => ?_
  exact J_some (fun h => j_aload_n rfl rfl (j_iload_n rfl rfl (j_v1 [.ref v0, .int v1] [] rfl rfl rfl rfl rfl rfl hw1 (Or.inl rfl) (t_Sf_yearOf (by omega) hσ2) (j_aload_n rfl rfl (j_gfr rfl hx4 (j_iload_n rfl rfl (j_ial rfl hx5 (j_isub rfl (j_aload_n rfl rfl (j_iload_n rfl rfl (j_v1 [.ref v2, .int v3] [.int (x3 - x5)] rfl rfl rfl rfl rfl rfl hw6 (Or.inl rfl) (t_Pa_slack (by omega) hσ7) (j_isub rfl (j_iret rfl rfl h)))))))))))))
theorem t_Sf_firstBorn {fo : Option Nat} {d : Nat} (hd : 2 ≤ d) {v0 : Nat} {v1 : Int32} {v2 : Nat} {v3 : Int32} {σ σ1 : q_H} {r : Int32} (h : f_Sf_firstBorn v0 v1 v2 v3 σ = some (r, σ1)) : q_Rel (q_rf fo) q_Ms d 89 [.ref v0, .int v1, .ref v2, .int v3] σ (.inl (some (.int r))) σ1 := by
  obtain ⟨d, rfl⟩ : ∃ d1, d = d1 + 1 := ⟨d - 1, by omega⟩
  exact q_Rel.of rfl rfl (b_Sf_firstBorn hd _ _ _ _ σ _ _ h ⟨rfl, rfl⟩)

def f_Sf_lastBorn (v0 : Nat) (v1 : Int32) (v2 : Nat) (v3 : Int32) (σ : q_H) : Option ((Int32) × q_H) := (q_ob σ 2 v0).bind fun w1 => q_sq (f_Sf_yearOf v0 v1 σ) fun x3 σ2 => (q_gr (q_gf σ2 8 v2 5)).bind fun x4 => (q_gi (q_ga σ2 20 x4 v3)).bind fun x5 => (q_ob σ2 8 v2).bind fun w6 => q_sq (f_Pa_slack v2 v3 σ2) fun x8 σ7 => some (((x3 - x5) + x8), σ7)
set_option maxRecDepth 100000 in
theorem b_Sf_lastBorn {fo : Option Nat} {d : Nat} (hd : 2 ≤ d + 1) {o : q_O} {σ' : q_H} (v0 : Nat) (v1 : Int32) (v2 : Nat) (v3 : Int32) (σ : q_H) : q_J (fun (r : Int32) (σ1 : q_H) => o = .inl (some (.int r)) ∧ σ' = σ1) (f_Sf_lastBorn v0 v1 v2 v3 σ) (q_G (q_rf fo) d m_Sf_lastBorn o σ' 0 [some (.ref v0), some (.int v1), some (.ref v2), some (.int v3)] [] σ) := by
  unfold f_Sf_lastBorn
  refine J_bind fun w1 hw1 => ?_
  refine J_cl fun x3 σ2 hσ2 => ?_
  refine J_bind fun x4 hx4 => ?_
  refine J_bind fun x5 hx5 => ?_
  refine J_bind fun w6 hw6 => ?_
  refine J_cl fun x8 σ7 hσ7 => ?_
  exact J_some (fun h => j_aload_n rfl rfl (j_iload_n rfl rfl (j_v1 [.ref v0, .int v1] [] rfl rfl rfl rfl rfl rfl hw1 (Or.inl rfl) (t_Sf_yearOf (by omega) hσ2) (j_aload_n rfl rfl (j_gfr rfl hx4 (j_iload_n rfl rfl (j_ial rfl hx5 (j_isub rfl (j_aload_n rfl rfl (j_iload_n rfl rfl (j_v1 [.ref v2, .int v3] [.int (x3 - x5)] rfl rfl rfl rfl rfl rfl hw6 (Or.inl rfl) (t_Pa_slack (by omega) hσ7) (j_iadd rfl (j_iret rfl rfl h)))))))))))))
theorem t_Sf_lastBorn {fo : Option Nat} {d : Nat} (hd : 2 ≤ d) {v0 : Nat} {v1 : Int32} {v2 : Nat} {v3 : Int32} {σ σ1 : q_H} {r : Int32} (h : f_Sf_lastBorn v0 v1 v2 v3 σ = some (r, σ1)) : q_Rel (q_rf fo) q_Ms d 91 [.ref v0, .int v1, .ref v2, .int v3] σ (.inl (some (.int r))) σ1 := by
  obtain ⟨d, rfl⟩ : ∃ d1, d = d1 + 1 := ⟨d - 1, by omega⟩
  exact q_Rel.of rfl rfl (b_Sf_lastBorn hd _ _ _ _ σ _ _ h ⟨rfl, rfl⟩)

def f_Rs_side (v0 : Nat) (v1 : Int32) (v2 : Int32) (σ : q_H) : Option ((Int32) × q_H) := q_sq (f_Rs_isFrom (0 : Int32) v1 (5 : Int32) σ) fun x2 σ1 => if x2 = (0 : Int32) then (some ((0 : Int32), σ1)) else (q_sq (f_Rs_isFrom (0 : Int32) v2 (1 : Int32) σ1) fun x5 σ4 => if x5 = (0 : Int32) then (some ((0 : Int32), σ4)) else ((q_gr (q_gf σ4 0 v0 3)).bind fun x7 => (q_gr (q_gf σ4 2 x7 5)).bind fun x8 => (q_sa σ4 20 x8 v1 (.int v2)).bind fun σ9 => some ((1 : Int32), σ9)))
set_option maxRecDepth 100000 in
theorem b_Rs_side {fo : Option Nat} {d : Nat} (hd : 2 ≤ d + 1) {o : q_O} {σ' : q_H} (v0 : Nat) (v1 : Int32) (v2 : Int32) (σ : q_H) : q_J (fun (r : Int32) (σ1 : q_H) => o = .inl (some (.int r)) ∧ σ' = σ1) (f_Rs_side v0 v1 v2 σ) (q_G (q_rf fo) d m_Rs_side o σ' 0 [some (.ref v0), some (.int v1), some (.int v2)] [] σ) := by
  unfold f_Rs_side
  refine J_cl fun x2 σ1 hσ1 => ?_
  refine q_J.step (fun g => j_iconst (0 : Int32) rfl k32_0 (j_iload_n rfl rfl (j_iconst (5 : Int32) rfl k32_5 (j_s1 [.int (0 : Int32), .int v1, .int (5 : Int32)] [] rfl rfl rfl rfl rfl (t_Rs_isFrom (by omega) hσ1) (g))))) ?_
  refine J_ite (fun h3 => ?_) (fun h3 => ?_)
  · exact J_some (fun h => j_if_t rfl (cc_eq_t h3) (j_iconst (0 : Int32) rfl k32_0 (j_iret rfl (q_zr (Or.inl rfl)) h)))
  refine J_cl fun x5 σ4 hσ4 => ?_
  refine q_J.step (fun g => j_if_f rfl (cc_eq_f h3) (j_iconst (0 : Int32) rfl k32_0 (j_iload_n rfl rfl (j_iconst (1 : Int32) rfl k32_1 (j_s1 [.int (0 : Int32), .int v2, .int (1 : Int32)] [] rfl rfl rfl rfl rfl (t_Rs_isFrom (by omega) hσ4) (g)))))) ?_
  refine J_ite (fun h6 => ?_) (fun h6 => ?_)
  · exact J_some (fun h => j_if_f rfl (cc_ne_f h6) (j_iconst (0 : Int32) rfl k32_0 (j_iret rfl (q_zr (Or.inl rfl)) h)))
  refine J_bind fun x7 hx7 => ?_
  refine J_bind fun x8 hx8 => ?_
  refine J_bind fun σ9 hσ9 => ?_
  exact J_some (fun h => j_if_t rfl (cc_ne_t h6) (j_aload_n rfl rfl (j_gfr rfl hx7 (j_gfr rfl hx8 (j_iload_n rfl rfl (j_iload_n rfl rfl (j_ias rfl hσ9 (j_iconst (1 : Int32) rfl k32_1 (j_iret rfl (q_zr (Or.inr rfl)) h)))))))))
theorem t_Rs_side {fo : Option Nat} {d : Nat} (hd : 2 ≤ d) {v0 : Nat} {v1 : Int32} {v2 : Int32} {σ σ1 : q_H} {r : Int32} (h : f_Rs_side v0 v1 v2 σ = some (r, σ1)) : q_Rel (q_rf fo) q_Ms d 106 [.ref v0, .int v1, .int v2] σ (.inl (some (.int r))) σ1 := by
  obtain ⟨d, rfl⟩ : ∃ d1, d = d1 + 1 := ⟨d - 1, by omega⟩
  exact q_Rel.of rfl rfl (b_Rs_side hd _ _ _ σ _ _ h ⟨rfl, rfl⟩)

def f_Rs_sheet (v0 : Nat) (v1 : Int32) (v2 : Int32) (v3 : Int32) (σ : q_H) : Option ((Int32) × q_H) := q_sq (f_Rs_isFrom (0 : Int32) v1 (23 : Int32) σ) fun x2 σ1 => if x2 = (0 : Int32) then (some ((0 : Int32), σ1)) else (q_sq (f_Rs_isFrom (0 : Int32) v2 (5 : Int32) σ1) fun x5 σ4 => if x5 = (0 : Int32) then (some ((0 : Int32), σ4)) else (q_sq (f_Rs_isFrom (0 : Int32) v3 (7 : Int32) σ4) fun x8 σ7 => if x8 = (0 : Int32) then (some ((0 : Int32), σ7)) else ((q_gr (q_gf σ7 0 v0 3)).bind fun x10 => (q_ob σ7 2 x10).bind fun w11 => q_sq (f_Sf_tell x10 v1 v2 v3 σ7) fun (_ : Unit) σ12 => (q_gr (q_gf σ12 0 v0 6)).bind fun x14 => (q_sf σ12 3 x14 0 (.int (1 : Int32))).bind fun σ15 => some ((1 : Int32), σ15))))
set_option maxRecDepth 100000 in
theorem b_Rs_sheet {fo : Option Nat} {d : Nat} (hd : 2 ≤ d + 1) {o : q_O} {σ' : q_H} (v0 : Nat) (v1 : Int32) (v2 : Int32) (v3 : Int32) (σ : q_H) : q_J (fun (r : Int32) (σ1 : q_H) => o = .inl (some (.int r)) ∧ σ' = σ1) (f_Rs_sheet v0 v1 v2 v3 σ) (q_G (q_rf fo) d m_Rs_sheet o σ' 0 [some (.ref v0), some (.int v1), some (.int v2), some (.int v3)] [] σ) := by
  unfold f_Rs_sheet
  refine J_cl fun x2 σ1 hσ1 => ?_
  refine q_J.step (fun g => j_iconst (0 : Int32) rfl k32_0 (j_iload_n rfl rfl (j_bipush (23 : Int32) rfl kb_23 (j_s1 [.int (0 : Int32), .int v1, .int (23 : Int32)] [] rfl rfl rfl rfl rfl (t_Rs_isFrom (by omega) hσ1) (g))))) ?_
  refine J_ite (fun h3 => ?_) (fun h3 => ?_)
  · exact J_some (fun h => j_if_t rfl (cc_eq_t h3) (j_iconst (0 : Int32) rfl k32_0 (j_iret rfl (q_zr (Or.inl rfl)) h)))
  refine J_cl fun x5 σ4 hσ4 => ?_
  refine q_J.step (fun g => j_if_f rfl (cc_eq_f h3) (j_iconst (0 : Int32) rfl k32_0 (j_iload_n rfl rfl (j_iconst (5 : Int32) rfl k32_5 (j_s1 [.int (0 : Int32), .int v2, .int (5 : Int32)] [] rfl rfl rfl rfl rfl (t_Rs_isFrom (by omega) hσ4) (g)))))) ?_
  refine J_ite (fun h6 => ?_) (fun h6 => ?_)
  · exact J_some (fun h => j_if_t rfl (cc_eq_t h6) (j_iconst (0 : Int32) rfl k32_0 (j_iret rfl (q_zr (Or.inl rfl)) h)))
  refine J_cl fun x8 σ7 hσ7 => ?_
  refine q_J.step (fun g => j_if_f rfl (cc_eq_f h6) (j_iconst (0 : Int32) rfl k32_0 (j_iload_n rfl rfl (j_bipush (7 : Int32) rfl kb_7 (j_s1 [.int (0 : Int32), .int v3, .int (7 : Int32)] [] rfl rfl rfl rfl rfl (t_Rs_isFrom (by omega) hσ7) (g)))))) ?_
  refine J_ite (fun h9 => ?_) (fun h9 => ?_)
  · exact J_some (fun h => j_if_f rfl (cc_ne_f h9) (j_iconst (0 : Int32) rfl k32_0 (j_iret rfl (q_zr (Or.inl rfl)) h)))
  refine J_bind fun x10 hx10 => ?_
  refine J_bind fun w11 hw11 => ?_
  refine J_cl fun _ σ12 hσ12 => ?_
  refine J_bind fun x14 hx14 => ?_
  refine J_bind fun σ15 hσ15 => ?_
  exact J_some (fun h => j_if_t rfl (cc_ne_t h9) (j_aload_n rfl rfl (j_gfr rfl hx10 (j_iload_n rfl rfl (j_iload_n rfl rfl (j_iload_n rfl rfl (j_v0 [.ref x10, .int v1, .int v2, .int v3] [] rfl rfl rfl rfl rfl rfl hw11 (Or.inl rfl) (t_Sf_tell (by omega) hσ12) (j_aload_n rfl rfl (j_gfr rfl hx14 (j_iconst (1 : Int32) rfl k32_1 (j_putf rfl rfl (by decide) rfl hσ15 (j_iconst (1 : Int32) rfl k32_1 (j_iret rfl (q_zr (Or.inr rfl)) h)))))))))))))
theorem t_Rs_sheet {fo : Option Nat} {d : Nat} (hd : 2 ≤ d) {v0 : Nat} {v1 : Int32} {v2 : Int32} {v3 : Int32} {σ σ1 : q_H} {r : Int32} (h : f_Rs_sheet v0 v1 v2 v3 σ = some (r, σ1)) : q_Rel (q_rf fo) q_Ms d 108 [.ref v0, .int v1, .int v2, .int v3] σ (.inl (some (.int r))) σ1 := by
  obtain ⟨d, rfl⟩ : ∃ d1, d = d1 + 1 := ⟨d - 1, by omega⟩
  exact q_Rel.of rfl rfl (b_Rs_sheet hd _ _ _ _ σ _ _ h ⟨rfl, rfl⟩)

def f_Rs_isScope (v0 : Int32) (v1 : Int32) (σ : q_H) : Option ((Int32) × q_H) := if v0 = (0 : Int32) then (some ((1 : Int32), σ)) else if v0 = (1 : Int32) then (q_sq (f_Rs_isFrom (0 : Int32) v1 (5 : Int32) σ) fun x4 σ3 => if ¬ (x4 = 0 ∨ x4 = 1) then none else some (x4, σ3)) else if v0 = (2 : Int32) then (q_sq (f_Rs_isFrom (0 : Int32) v1 (7 : Int32) σ) fun x7 σ6 => if ¬ (x7 = 0 ∨ x7 = 1) then none else some (x7, σ6)) else if v0 = (3 : Int32) then (q_sq (f_Rs_isFrom (0 : Int32) v1 (1 : Int32) σ) fun x10 σ9 => if ¬ (x10 = 0 ∨ x10 = 1) then none else some (x10, σ9)) else (some ((0 : Int32), σ))
set_option maxRecDepth 100000 in
theorem b_Rs_isScope {fo : Option Nat} {d : Nat} (hd : 2 ≤ d + 1) {o : q_O} {σ' : q_H} (v0 : Int32) (v1 : Int32) (σ : q_H) : q_J (fun (r : Int32) (σ1 : q_H) => o = .inl (some (.int r)) ∧ σ' = σ1) (f_Rs_isScope v0 v1 σ) (q_G (q_rf fo) d m_Rs_isScope o σ' 0 [some (.int v0), some (.int v1)] [] σ) := by
  unfold f_Rs_isScope
  refine q_J.step (fun g => j_iload_n rfl rfl (g)) ?_
  refine J_ite (fun h1 => ?_) (fun h1 => ?_)
  · exact J_some (fun h => j_sw 32 rfl (by rw [h1]; decide) (by rw [h1]; decide) (j_iconst (1 : Int32) rfl k32_1 (j_iret rfl (q_zr (Or.inr rfl)) h)))
  refine J_ite (fun h2 => ?_) (fun h2 => ?_)
  · refine J_cl fun x4 σ3 hσ3 => ?_
    refine q_J.step (fun g => j_sw 34 rfl (by rw [h2]; decide) (by rw [h2]; decide) (j_iconst (0 : Int32) rfl k32_0 (j_iload_n rfl rfl (j_iconst (5 : Int32) rfl k32_5 (j_s1 [.int (0 : Int32), .int v1, .int (5 : Int32)] [] rfl rfl rfl rfl rfl (t_Rs_isFrom (by omega) hσ3) (g)))))) ?_
    refine J_ite (fun _ => J_none) (fun hz => ?_)
    replace hz := Decidable.not_not.mp hz
    exact J_some (fun h => j_iret rfl (q_zr hz) h)
  refine J_ite (fun h5 => ?_) (fun h5 => ?_)
  · refine J_cl fun x7 σ6 hσ6 => ?_
    refine q_J.step (fun g => j_sw 41 rfl (by rw [h5]; decide) (by rw [h5]; decide) (j_iconst (0 : Int32) rfl k32_0 (j_iload_n rfl rfl (j_bipush (7 : Int32) rfl kb_7 (j_s1 [.int (0 : Int32), .int v1, .int (7 : Int32)] [] rfl rfl rfl rfl rfl (t_Rs_isFrom (by omega) hσ6) (g)))))) ?_
    refine J_ite (fun _ => J_none) (fun hz => ?_)
    replace hz := Decidable.not_not.mp hz
    exact J_some (fun h => j_iret rfl (q_zr hz) h)
  refine J_ite (fun h8 => ?_) (fun h8 => ?_)
  · refine J_cl fun x10 σ9 hσ9 => ?_
    refine q_J.step (fun g => j_sw 49 rfl (by rw [h8]; decide) (by rw [h8]; decide) (j_iconst (0 : Int32) rfl k32_0 (j_iload_n rfl rfl (j_iconst (1 : Int32) rfl k32_1 (j_s1 [.int (0 : Int32), .int v1, .int (1 : Int32)] [] rfl rfl rfl rfl rfl (t_Rs_isFrom (by omega) hσ9) (g)))))) ?_
    refine J_ite (fun _ => J_none) (fun hz => ?_)
    replace hz := Decidable.not_not.mp hz
    exact J_some (fun h => j_iret rfl (q_zr hz) h)
  exact J_some (fun h => j_swd 56 rfl (q_swd_0_3 h1 h2 h5 h8) rfl (j_iconst (0 : Int32) rfl k32_0 (j_iret rfl (q_zr (Or.inl rfl)) h)))
theorem t_Rs_isScope {fo : Option Nat} {d : Nat} (hd : 2 ≤ d) {v0 : Int32} {v1 : Int32} {σ σ1 : q_H} {r : Int32} (h : f_Rs_isScope v0 v1 σ = some (r, σ1)) : q_Rel (q_rf fo) q_Ms d 118 [.int v0, .int v1] σ (.inl (some (.int r))) σ1 := by
  obtain ⟨d, rfl⟩ : ∃ d1, d = d1 + 1 := ⟨d - 1, by omega⟩
  exact q_Rel.of rfl rfl (b_Rs_isScope hd _ _ σ _ _ h ⟨rfl, rfl⟩)

def f_Rs_partOf (v0 : Option Nat) (v1 : Int32) (σ : q_H) : Option ((Int32) × q_H) := match v0 with | none => (some ((-1 : Int32), σ)) | some a1 => (q_sq (f_Rs_isFrom (0 : Int32) v1 (1 : Int32) σ) fun x3 σ2 => if x3 = (0 : Int32) then (some ((-1 : Int32), σ2)) else (if v1 = (0 : Int32) then ((q_gl' (q_gf σ2 10 a1 0)).bind fun x6 => some (x6.toInt32, σ2)) else ((q_gl' (q_gf σ2 10 a1 1)).bind fun x7 => some (x7.toInt32, σ2))))
set_option maxRecDepth 100000 in
theorem b_Rs_partOf {fo : Option Nat} {d : Nat} (hd : 2 ≤ d + 1) {o : q_O} {σ' : q_H} (v0 : Option Nat) (v1 : Int32) (σ : q_H) : q_J (fun (r : Int32) (σ1 : q_H) => o = .inl (some (.int r)) ∧ σ' = σ1) (f_Rs_partOf v0 v1 σ) (q_G (q_rf fo) d m_Rs_partOf o σ' 0 [some (q_rf v0), some (.int v1)] [] σ) := by
  unfold f_Rs_partOf
  refine q_J.step (fun g => j_aload_nO (x := v0) rfl rfl (g)) ?_
  cases ha1 : v0 with
  | none =>
    try subst ha1
    exact J_some (fun h => j_nul_t rfl (j_iconst (-1 : Int32) rfl k32_m1 (j_iret rfl rfl h)))
  | some a1 =>
    try subst ha1
    refine J_cl fun x3 σ2 hσ2 => ?_
    refine q_J.step (fun g => j_nul_f rfl (j_iconst (0 : Int32) rfl k32_0 (j_iload_n rfl rfl (j_iconst (1 : Int32) rfl k32_1 (j_s1 [.int (0 : Int32), .int v1, .int (1 : Int32)] [] rfl rfl rfl rfl rfl (t_Rs_isFrom (by omega) hσ2) (g)))))) ?_
    refine J_ite (fun h4 => ?_) (fun h4 => ?_)
    · exact J_some (fun h => j_if_f rfl (cc_ne_f h4) (j_iconst (-1 : Int32) rfl k32_m1 (j_iret rfl rfl h)))
    refine q_J.step (fun g => j_if_t rfl (cc_ne_t h4) (j_iload_n rfl rfl (g))) ?_
    refine J_ite (fun h5 => ?_) (fun h5 => ?_)
    · refine J_bind fun x6 hx6 => ?_
      exact J_some (fun h => j_if_f rfl (cc_ne_f h5) (j_aload_n rfl rfl (j_gfl rfl hx6 (j_goto rfl (j_l2i rfl (j_iret rfl rfl h))))))
    refine J_bind fun x7 hx7 => ?_
    exact J_some (fun h => j_if_t rfl (cc_ne_t h5) (j_aload_n rfl rfl (j_gfl rfl hx7 (j_l2i rfl (j_iret rfl rfl h)))))
theorem t_Rs_partOf {fo : Option Nat} {d : Nat} (hd : 2 ≤ d) {v0 : Option Nat} {v1 : Int32} {σ σ1 : q_H} {r : Int32} (h : f_Rs_partOf v0 v1 σ = some (r, σ1)) : q_Rel (q_rf fo) q_Ms d 121 [q_rf v0, .int v1] σ (.inl (some (.int r))) σ1 := by
  obtain ⟨d, rfl⟩ : ∃ d1, d = d1 + 1 := ⟨d - 1, by omega⟩
  cases v0 <;> exact q_Rel.of rfl rfl (b_Rs_partOf hd _ _ σ _ _ h ⟨rfl, rfl⟩)

def f_Rs_isTable (v0 : Int32) (σ : q_H) : Option ((Int32) × q_H) := q_sq (f_Rs_isFrom (0 : Int32) v0 (3 : Int32) σ) fun x2 σ1 => if ¬ (x2 = 0 ∨ x2 = 1) then none else some (x2, σ1)
set_option maxRecDepth 100000 in
theorem b_Rs_isTable {fo : Option Nat} {d : Nat} (hd : 2 ≤ d + 1) {o : q_O} {σ' : q_H} (v0 : Int32) (σ : q_H) : q_J (fun (r : Int32) (σ1 : q_H) => o = .inl (some (.int r)) ∧ σ' = σ1) (f_Rs_isTable v0 σ) (q_G (q_rf fo) d m_Rs_isTable o σ' 0 [some (.int v0)] [] σ) := by
  unfold f_Rs_isTable
  refine J_cl fun x2 σ1 hσ1 => ?_
  refine q_J.step (fun g => j_iconst (0 : Int32) rfl k32_0 (j_iload_n rfl rfl (j_iconst (3 : Int32) rfl k32_3 (j_s1 [.int (0 : Int32), .int v0, .int (3 : Int32)] [] rfl rfl rfl rfl rfl (t_Rs_isFrom (by omega) hσ1) (g))))) ?_
  refine J_ite (fun _ => J_none) (fun hz => ?_)
  replace hz := Decidable.not_not.mp hz
  exact J_some (fun h => j_iret rfl (q_zr hz) h)
theorem t_Rs_isTable {fo : Option Nat} {d : Nat} (hd : 2 ≤ d) {v0 : Int32} {σ σ1 : q_H} {r : Int32} (h : f_Rs_isTable v0 σ = some (r, σ1)) : q_Rel (q_rf fo) q_Ms d 133 [.int v0] σ (.inl (some (.int r))) σ1 := by
  obtain ⟨d, rfl⟩ : ∃ d1, d = d1 + 1 := ⟨d - 1, by omega⟩
  exact q_Rel.of rfl rfl (b_Rs_isTable hd _ σ _ _ h ⟨rfl, rfl⟩)

def f_Rs_gap (v0 : Nat) (v1 : Int32) (σ : q_H) : Option ((Int32) × q_H) := q_sq (f_Rs_isFrom (-30 : Int32) v1 (30 : Int32) σ) fun x2 σ1 => if x2 = (0 : Int32) then (some ((-1 : Int32), σ1)) else ((q_gr (q_gf σ1 0 v0 7)).bind fun x4 => (q_ob σ1 4 x4).bind fun w5 => q_sq (f_Li_addGap x4 v1 σ1) fun x7 σ6 => if x7 = (0 : Int32) then (some ((-1 : Int32), σ6)) else ((q_gr (q_gf σ6 0 v0 7)).bind fun x9 => (q_gi (q_gf σ6 4 x9 2)).bind fun x10 => some (x10, σ6)))
set_option maxRecDepth 100000 in
theorem b_Rs_gap {fo : Option Nat} {d : Nat} (hd : 2 ≤ d + 1) {o : q_O} {σ' : q_H} (v0 : Nat) (v1 : Int32) (σ : q_H) : q_J (fun (r : Int32) (σ1 : q_H) => o = .inl (some (.int r)) ∧ σ' = σ1) (f_Rs_gap v0 v1 σ) (q_G (q_rf fo) d m_Rs_gap o σ' 0 [some (.ref v0), some (.int v1)] [] σ) := by
  unfold f_Rs_gap
  refine J_cl fun x2 σ1 hσ1 => ?_
  refine q_J.step (fun g => j_bipush (-30 : Int32) rfl kb_m30 (j_iload_n rfl rfl (j_bipush (30 : Int32) rfl kb_30 (j_s1 [.int (-30 : Int32), .int v1, .int (30 : Int32)] [] rfl rfl rfl rfl rfl (t_Rs_isFrom (by omega) hσ1) (g))))) ?_
  refine J_ite (fun h3 => ?_) (fun h3 => ?_)
  · exact J_some (fun h => j_if_t rfl (cc_eq_t h3) (j_iconst (-1 : Int32) rfl k32_m1 (j_iret rfl rfl h)))
  refine J_bind fun x4 hx4 => ?_
  refine J_bind fun w5 hw5 => ?_
  refine J_cl fun x7 σ6 hσ6 => ?_
  refine q_J.step (fun g => j_if_f rfl (cc_eq_f h3) (j_aload_n rfl rfl (j_gfr rfl hx4 (j_iload_n rfl rfl (j_v1 [.ref x4, .int v1] [] rfl rfl rfl rfl rfl rfl hw5 (Or.inl rfl) (t_Li_addGap (by omega) hσ6) (g)))))) ?_
  refine J_ite (fun h8 => ?_) (fun h8 => ?_)
  · exact J_some (fun h => j_if_t rfl (cc_eq_t h8) (j_iconst (-1 : Int32) rfl k32_m1 (j_iret rfl rfl h)))
  refine J_bind fun x9 hx9 => ?_
  refine J_bind fun x10 hx10 => ?_
  exact J_some (fun h => j_if_f rfl (cc_eq_f h8) (j_aload_n rfl rfl (j_gfr rfl hx9 (j_gfi rfl hx10 (j_goto rfl (j_iret rfl rfl h))))))
theorem t_Rs_gap {fo : Option Nat} {d : Nat} (hd : 2 ≤ d) {v0 : Nat} {v1 : Int32} {σ σ1 : q_H} {r : Int32} (h : f_Rs_gap v0 v1 σ = some (r, σ1)) : q_Rel (q_rf fo) q_Ms d 139 [.ref v0, .int v1] σ (.inl (some (.int r))) σ1 := by
  obtain ⟨d, rfl⟩ : ∃ d1, d = d1 + 1 := ⟨d - 1, by omega⟩
  exact q_Rel.of rfl rfl (b_Rs_gap hd _ _ σ _ _ h ⟨rfl, rfl⟩)

def f_Rs_mark (v0 : Nat) (v1 : Int32) (v2 : Int32) (σ : q_H) : Option ((Int32) × q_H) := q_sq (f_Rs_isFrom (0 : Int32) v1 (3 : Int32) σ) fun x2 σ1 => if x2 = (0 : Int32) then (some ((0 : Int32), σ1)) else (if v2 = (0 : Int32) then (if v2 = (0 : Int32) then ((q_gr (q_gf σ1 0 v0 4)).bind fun x6 => (q_gr (q_ga σ1 26 x6 v1)).bind fun x7 => (q_gr (q_gf σ1 0 v0 3)).bind fun x8 => (q_ob σ1 2 x7).bind fun w9 => q_sq (f_Sf_copyFrom x7 x8 σ1) fun (_ : Unit) σ10 => (q_gr (q_gf σ10 0 v0 5)).bind fun x12 => (q_sa σ10 22 x12 v1 (.int (1 : Int32))).bind fun σ13 => some ((1 : Int32), σ13)) else ((q_gr (q_gf σ1 0 v0 3)).bind fun x14 => (q_gr (q_gf σ1 0 v0 4)).bind fun x15 => (q_gr (q_ga σ1 26 x15 v1)).bind fun x16 => (q_ob σ1 2 x14).bind fun w17 => q_sq (f_Sf_copyFrom x14 x16 σ1) fun (_ : Unit) σ18 => (q_gr (q_gf σ18 0 v0 6)).bind fun x20 => (q_sf σ18 3 x20 0 (.int (1 : Int32))).bind fun σ21 => some ((1 : Int32), σ21))) else ((q_gr (q_gf σ1 0 v0 5)).bind fun x22 => (q_gi (q_ga σ1 22 x22 v1)).bind fun x23 => if x23 = (0 : Int32) then (some ((0 : Int32), σ1)) else (if v2 = (0 : Int32) then ((q_gr (q_gf σ1 0 v0 4)).bind fun x26 => (q_gr (q_ga σ1 26 x26 v1)).bind fun x27 => (q_gr (q_gf σ1 0 v0 3)).bind fun x28 => (q_ob σ1 2 x27).bind fun w29 => q_sq (f_Sf_copyFrom x27 x28 σ1) fun (_ : Unit) σ30 => (q_gr (q_gf σ30 0 v0 5)).bind fun x32 => (q_sa σ30 22 x32 v1 (.int (1 : Int32))).bind fun σ33 => some ((1 : Int32), σ33)) else ((q_gr (q_gf σ1 0 v0 3)).bind fun x34 => (q_gr (q_gf σ1 0 v0 4)).bind fun x35 => (q_gr (q_ga σ1 26 x35 v1)).bind fun x36 => (q_ob σ1 2 x34).bind fun w37 => q_sq (f_Sf_copyFrom x34 x36 σ1) fun (_ : Unit) σ38 => (q_gr (q_gf σ38 0 v0 6)).bind fun x40 => (q_sf σ38 3 x40 0 (.int (1 : Int32))).bind fun σ41 => some ((1 : Int32), σ41)))))
set_option maxRecDepth 100000 in
theorem b_Rs_mark {fo : Option Nat} {d : Nat} (hd : 2 ≤ d + 1) {o : q_O} {σ' : q_H} (v0 : Nat) (v1 : Int32) (v2 : Int32) (σ : q_H) : q_J (fun (r : Int32) (σ1 : q_H) => o = .inl (some (.int r)) ∧ σ' = σ1) (f_Rs_mark v0 v1 v2 σ) (q_G (q_rf fo) d m_Rs_mark o σ' 0 [some (.ref v0), some (.int v1), some (.int v2)] [] σ) := by
  unfold f_Rs_mark
  refine J_cl fun x2 σ1 hσ1 => ?_
  refine q_J.step (fun g => j_iconst (0 : Int32) rfl k32_0 (j_iload_n rfl rfl (j_iconst (3 : Int32) rfl k32_3 (j_s1 [.int (0 : Int32), .int v1, .int (3 : Int32)] [] rfl rfl rfl rfl rfl (t_Rs_isFrom (by omega) hσ1) (g))))) ?_
  refine J_ite (fun h3 => ?_) (fun h3 => ?_)
  · exact J_some (fun h => j_if_t rfl (cc_eq_t h3) (j_iconst (0 : Int32) rfl k32_0 (j_iret rfl (q_zr (Or.inl rfl)) h)))
  refine q_J.step (fun g => j_if_f rfl (cc_eq_f h3) (j_iload_n rfl rfl (g))) ?_
  refine J_ite (fun h4 => ?_) (fun h4 => ?_)
  · refine q_J.step (fun g => j_if_t rfl (cc_eq_t h4) (j_iload_n rfl rfl (g))) ?_
    refine J_ite (fun h5 => ?_) (fun h5 => ?_)
    · refine J_bind fun x6 hx6 => ?_
      refine J_bind fun x7 hx7 => ?_
      refine J_bind fun x8 hx8 => ?_
      refine J_bind fun w9 hw9 => ?_
      refine J_cl fun _ σ10 hσ10 => ?_
      refine J_bind fun x12 hx12 => ?_
      refine J_bind fun σ13 hσ13 => ?_
      exact J_some (fun h => j_if_t rfl (cc_eq_t h5) (j_aload_n rfl rfl (j_gfr rfl hx6 (j_iload_n rfl rfl (j_aal rfl rfl hx7 (j_aload_n rfl rfl (j_gfr rfl hx8 (j_v0 [.ref x7, .ref x8] [] rfl rfl rfl rfl rfl rfl hw9 (Or.inl rfl) (t_Sf_copyFrom (by omega) hσ10) (j_aload_n rfl rfl (j_gfr rfl hx12 (j_iload_n rfl rfl (j_iconst (1 : Int32) rfl k32_1 (j_bas rfl (by decide) hσ13 (j_iconst (1 : Int32) rfl k32_1 (j_iret rfl (q_zr (Or.inr rfl)) h)))))))))))))))
    refine J_bind fun x14 hx14 => ?_
    refine J_bind fun x15 hx15 => ?_
    refine J_bind fun x16 hx16 => ?_
    refine J_bind fun w17 hw17 => ?_
    refine J_cl fun _ σ18 hσ18 => ?_
    refine J_bind fun x20 hx20 => ?_
    refine J_bind fun σ21 hσ21 => ?_
    exact J_some (fun h => j_if_f rfl (cc_eq_f h5) (j_aload_n rfl rfl (j_gfr rfl hx14 (j_aload_n rfl rfl (j_gfr rfl hx15 (j_iload_n rfl rfl (j_aal rfl rfl hx16 (j_v0 [.ref x14, .ref x16] [] rfl rfl rfl rfl rfl rfl hw17 (Or.inl rfl) (t_Sf_copyFrom (by omega) hσ18) (j_aload_n rfl rfl (j_gfr rfl hx20 (j_iconst (1 : Int32) rfl k32_1 (j_putf rfl rfl (by decide) rfl hσ21 (j_goto rfl (j_iconst (1 : Int32) rfl k32_1 (j_iret rfl (q_zr (Or.inr rfl)) h)))))))))))))))
  refine J_bind fun x22 hx22 => ?_
  refine J_bind fun x23 hx23 => ?_
  refine q_J.step (fun g => j_if_f rfl (cc_eq_f h4) (j_aload_n rfl rfl (j_gfr rfl hx22 (j_iload_n rfl rfl (j_bal rfl rfl hx23 (g)))))) ?_
  refine J_ite (fun h24 => ?_) (fun h24 => ?_)
  · exact J_some (fun h => j_if_f rfl (cc_ne_f h24) (j_iconst (0 : Int32) rfl k32_0 (j_iret rfl (q_zr (Or.inl rfl)) h)))
  refine q_J.step (fun g => j_if_t rfl (cc_ne_t h24) (j_iload_n rfl rfl (g))) ?_
  refine J_ite (fun h25 => ?_) (fun h25 => ?_)
  · refine J_bind fun x26 hx26 => ?_
    refine J_bind fun x27 hx27 => ?_
    refine J_bind fun x28 hx28 => ?_
    refine J_bind fun w29 hw29 => ?_
    refine J_cl fun _ σ30 hσ30 => ?_
    refine J_bind fun x32 hx32 => ?_
    refine J_bind fun σ33 hσ33 => ?_
    exact J_some (fun h => j_if_t rfl (cc_eq_t h25) (j_aload_n rfl rfl (j_gfr rfl hx26 (j_iload_n rfl rfl (j_aal rfl rfl hx27 (j_aload_n rfl rfl (j_gfr rfl hx28 (j_v0 [.ref x27, .ref x28] [] rfl rfl rfl rfl rfl rfl hw29 (Or.inl rfl) (t_Sf_copyFrom (by omega) hσ30) (j_aload_n rfl rfl (j_gfr rfl hx32 (j_iload_n rfl rfl (j_iconst (1 : Int32) rfl k32_1 (j_bas rfl (by decide) hσ33 (j_iconst (1 : Int32) rfl k32_1 (j_iret rfl (q_zr (Or.inr rfl)) h)))))))))))))))
  refine J_bind fun x34 hx34 => ?_
  refine J_bind fun x35 hx35 => ?_
  refine J_bind fun x36 hx36 => ?_
  refine J_bind fun w37 hw37 => ?_
  refine J_cl fun _ σ38 hσ38 => ?_
  refine J_bind fun x40 hx40 => ?_
  refine J_bind fun σ41 hσ41 => ?_
  exact J_some (fun h => j_if_f rfl (cc_eq_f h25) (j_aload_n rfl rfl (j_gfr rfl hx34 (j_aload_n rfl rfl (j_gfr rfl hx35 (j_iload_n rfl rfl (j_aal rfl rfl hx36 (j_v0 [.ref x34, .ref x36] [] rfl rfl rfl rfl rfl rfl hw37 (Or.inl rfl) (t_Sf_copyFrom (by omega) hσ38) (j_aload_n rfl rfl (j_gfr rfl hx40 (j_iconst (1 : Int32) rfl k32_1 (j_putf rfl rfl (by decide) rfl hσ41 (j_goto rfl (j_iconst (1 : Int32) rfl k32_1 (j_iret rfl (q_zr (Or.inr rfl)) h)))))))))))))))
theorem t_Rs_mark {fo : Option Nat} {d : Nat} (hd : 2 ≤ d) {v0 : Nat} {v1 : Int32} {v2 : Int32} {σ σ1 : q_H} {r : Int32} (h : f_Rs_mark v0 v1 v2 σ = some (r, σ1)) : q_Rel (q_rf fo) q_Ms d 161 [.ref v0, .int v1, .int v2] σ (.inl (some (.int r))) σ1 := by
  obtain ⟨d, rfl⟩ : ∃ d1, d = d1 + 1 := ⟨d - 1, by omega⟩
  exact q_Rel.of rfl rfl (b_Rs_mark hd _ _ _ σ _ _ h ⟨rfl, rfl⟩)

def f_Ra_of (v0 : Int64) (v2 : Int64) (σ : q_H) : Option ((Option Nat) × q_H) := if (0 : Int64) < v2 then (q_ma σ 10 [.long 0, .long 0] fun σ2 a3 => q_sq (f_Ra_init a3 v0 v2 σ2) fun (_ : Unit) σ4 => some (some a3, σ4)) else (some (none, σ))
set_option maxRecDepth 100000 in
theorem b_Ra_of {fo : Option Nat} {d : Nat} (hd : 3 ≤ d + 1) {o : q_O} {σ' : q_H} (v0 : Int64) (v2 : Int64) (σ : q_H) : q_J (fun (r : Option Nat) (σ1 : q_H) => o = .inl (some (q_rf r)) ∧ σ' = σ1) (f_Ra_of v0 v2 σ) (q_G (q_rf fo) d m_Ra_of o σ' 0 [some (.long v0), none, some (.long v2), none] [] σ) := by
  unfold f_Ra_of
  refine q_J.step (fun g => j_lload_n rfl rfl (j_lconst (0 : Int64) rfl kl_0 (j_lcmp rfl (g)))) ?_
  refine J_ite (fun h1 => ?_) (fun h1 => ?_)
  · refine J_ma fun σ2 a3 hσ2 ha3 => ?_
    refine J_cl fun _ σ4 hσ4 => ?_
    exact J_some (fun h => j_if_t rfl (lc_gt_t h1) (j_newk2 [.long 0, .long 0] rfl rfl rfl hσ2 ha3 (j_dup rfl rfl (j_lload_n rfl rfl (j_lload_n rfl rfl (j_i0 [.ref a3, .long v0, .long v2] [.ref a3] rfl rfl rfl rfl rfl rfl (t_Ra_init (by omega) hσ4) (j_aret (x := some a3) rfl (Or.inl ⟨_, rfl⟩) h)))))))
  exact J_some (fun h => j_if_f rfl (lc_gt_f h1) (j_null rfl (j_goto rfl (j_aret (x := none) rfl (Or.inl ⟨_, rfl⟩) h))))
theorem t_Ra_of {fo : Option Nat} {d : Nat} (hd : 3 ≤ d) {v0 : Int64} {v2 : Int64} {σ σ1 : q_H} {r : Option Nat} (h : f_Ra_of v0 v2 σ = some (r, σ1)) : q_Rel (q_rf fo) q_Ms d 23 [.long v0, .long v2] σ (.inl (some (q_rf r))) σ1 := by
  obtain ⟨d, rfl⟩ : ∃ d1, d = d1 + 1 := ⟨d - 1, by omega⟩
  exact q_Rel.of rfl rfl (b_Ra_of hd _ _ σ _ _ h ⟨rfl, rfl⟩)

def f_Ra_difference (v0 : Int64) (v2 : Int64) (v4 : Int64) (v6 : Int64) (σ : q_H) : Option ((Option Nat) × q_H) := if (0 : Int64) < v2 then (if (0 : Int64) < v6 then (q_ma σ 10 [.long 0, .long 0] fun σ3 a4 => q_sq (f_Ra_init a4 ((v0 * v6) - (v4 * v2)) (v2 * v6) σ3) fun (_ : Unit) σ5 => some (some a4, σ5)) else (some (none, σ))) else (some (none, σ))
set_option maxRecDepth 100000 in
theorem b_Ra_difference {fo : Option Nat} {d : Nat} (hd : 3 ≤ d + 1) {o : q_O} {σ' : q_H} (v0 : Int64) (v2 : Int64) (v4 : Int64) (v6 : Int64) (σ : q_H) : q_J (fun (r : Option Nat) (σ1 : q_H) => o = .inl (some (q_rf r)) ∧ σ' = σ1) (f_Ra_difference v0 v2 v4 v6 σ) (q_G (q_rf fo) d m_Ra_difference o σ' 0 [some (.long v0), none, some (.long v2), none, some (.long v4), none, some (.long v6), none] [] σ) := by
  unfold f_Ra_difference
  refine q_J.step (fun g => j_lload_n rfl rfl (j_lconst (0 : Int64) rfl kl_0 (j_lcmp rfl (g)))) ?_
  refine J_ite (fun h1 => ?_) (fun h1 => ?_)
  · refine q_J.step (fun g => j_if_f rfl (lc_le_f h1) (j_lload rfl rfl (j_lconst (0 : Int64) rfl kl_0 (j_lcmp rfl (g))))) ?_
    refine J_ite (fun h2 => ?_) (fun h2 => ?_)
    · refine J_ma fun σ3 a4 hσ3 ha4 => ?_
      refine J_cl fun _ σ5 hσ5 => ?_
      exact J_some (fun h => j_if_t rfl (lc_gt_t h2) (j_newk2 [.long 0, .long 0] rfl rfl rfl hσ3 ha4 (j_dup rfl rfl (j_lload_n rfl rfl (j_lload rfl rfl (j_lmul rfl (j_lload rfl rfl (j_lload_n rfl rfl (j_lmul rfl (j_lsub rfl (j_lload_n rfl rfl (j_lload rfl rfl (j_lmul rfl (j_i0 [.ref a4, .long ((v0 * v6) - (v4 * v2)), .long (v2 * v6)] [.ref a4] rfl rfl rfl rfl rfl rfl (t_Ra_init (by omega) hσ5) (j_aret (x := some a4) rfl (Or.inl ⟨_, rfl⟩) h)))))))))))))))
    exact J_some (fun h => j_if_f rfl (lc_gt_f h2) (j_null rfl (j_aret (x := none) rfl (Or.inl ⟨_, rfl⟩) h)))
  exact J_some (fun h => j_if_t rfl (lc_le_t h1) (j_null rfl (j_aret (x := none) rfl (Or.inl ⟨_, rfl⟩) h)))
theorem t_Ra_difference {fo : Option Nat} {d : Nat} (hd : 3 ≤ d) {v0 : Int64} {v2 : Int64} {v4 : Int64} {v6 : Int64} {σ σ1 : q_H} {r : Option Nat} (h : f_Ra_difference v0 v2 v4 v6 σ = some (r, σ1)) : q_Rel (q_rf fo) q_Ms d 26 [.long v0, .long v2, .long v4, .long v6] σ (.inl (some (q_rf r))) σ1 := by
  obtain ⟨d, rfl⟩ : ∃ d1, d = d1 + 1 := ⟨d - 1, by omega⟩
  exact q_Rel.of rfl rfl (b_Ra_difference hd _ _ _ _ σ _ _ h ⟨rfl, rfl⟩)

def f_Li_misfit_L6 (v0 : Nat) (v1 : Int32) (v2 : Int32) (v3 : Nat) : Nat → Int64 → Int32 → q_H → Option ((Int64) × q_H)
  | 0, _, _, _ => none
  | n + 1, v4, v6, σ => if v6 < (17 : Int32) then ((q_gi (q_ga σ 20 v3 v6)).bind fun x2 => f_Li_misfit_L6 v0 v1 v2 v3 n (v4 + x2.toInt64) (v6 + (1 : Int32)) σ) else (some (v4, σ))
set_option maxRecDepth 100000 in
theorem l_Li_misfit_L6 {fo : Option Nat} {d : Nat} (hd : 3 ≤ d + 1) {o : q_O} {σ' : q_H} {E : (Int64) → q_H → Prop} (v0 : Nat) (v1 : Int32) (v2 : Int32) (v3 : Nat) (hX : ∀ (t : Int64) σ1, E (t) σ1 → q_G (q_rf fo) d m_Li_misfit o σ' 29 [some (.ref v0), some (.int v1), some (.int v2), some (.ref v3), some (.long t), none, none, none, none, none, none] [] σ1)  : ∀ (n : Nat) (v4 : Int64) (v6 : Int32) (σ : q_H), q_J E (f_Li_misfit_L6 v0 v1 v2 v3 n v4 v6 σ) (q_G (q_rf fo) d m_Li_misfit o σ' 6 [some (.ref v0), some (.int v1), some (.int v2), some (.ref v3), some (.long v4), none, some (.int v6), none, none, none, none] [] σ)
  | 0, v4, v6, σ => J_none
  | n + 1, v4, v6, σ => by
    unfold f_Li_misfit_L6
    refine q_J.step (fun g => j_iload rfl rfl (j_bipush (17 : Int32) rfl kb_17 (g))) ?_
    refine J_ite (fun h1 => ?_) (fun h1 => ?_)
    · refine J_bind fun x2 hx2 => ?_
      exact q_J.step (fun g => j_icmp_f rfl (cc_ge_f h1) (j_lload rfl rfl (j_aload_n rfl rfl (j_iload rfl rfl (j_ial rfl hx2 (j_i2l rfl (j_ladd rfl (j_lstore [some (.ref v0), some (.int v1), some (.int v2), some (.ref v3), some (.long (v4 + x2.toInt64)), none, some (.int v6), none, none, none, none] rfl rfl (Or.inr rfl) rfl (j_iinc [some (.ref v0), some (.int v1), some (.int v2), some (.ref v3), some (.long (v4 + x2.toInt64)), none, some (.int (v6 + (1 : Int32))), none, none, none, none] (v6 + (1 : Int32)) rfl rfl (by rw [k32_1]) (Or.inr True.intro) rfl (j_goto rfl (g))))))))))) (l_Li_misfit_L6 hd v0 v1 v2 v3 hX n (v4 + x2.toInt64) (v6 + (1 : Int32)) σ)
    exact J_some (fun h => j_icmp_t rfl (cc_ge_t h1) (j_weak (l := [some (.ref v0), some (.int v1), some (.int v2), some (.ref v3), some (.long v4), none, none, none, none, none, none]) (And.intro (Or.inr rfl) (And.intro (Or.inr rfl) (And.intro (Or.inr rfl) (And.intro (Or.inr rfl) (And.intro (Or.inr rfl) (And.intro (Or.inr rfl) (And.intro (Or.inl rfl) (And.intro (Or.inr rfl) (And.intro (Or.inr rfl) (And.intro (Or.inr rfl) (And.intro (Or.inr rfl) True.intro))))))))))) (hX _ _ h)))

def f_Li_misfit_L45 (v0 : Nat) (v1 : Int32) (v3 : Nat) (v4 : Int64) (v6 : Int64) : Nat → Int64 → Int32 → q_H → Option ((Int64) × q_H)
  | 0, _, _, _ => none
  | n + 1, v8, v10, σ => if v10 < (17 : Int32) then ((q_gi (q_ga σ 20 v3 v10)).bind fun x9 => (q_ob σ 4 v0).bind fun w10 => q_sq (f_Li_living v0 v1 v10 σ) fun x12 σ11 => f_Li_misfit_L45 v0 v1 v3 v4 v6 n (v8 + (if 0 < ((x9.toInt64 * v6) - (x12.toInt64 * v4)) then ((x9.toInt64 * v6) - (x12.toInt64 * v4)) else -((x9.toInt64 * v6) - (x12.toInt64 * v4)))) (v10 + (1 : Int32)) σ11) else (some (v8, σ))
set_option maxRecDepth 100000 in
theorem l_Li_misfit_L45 {fo : Option Nat} {d : Nat} (hd : 3 ≤ d + 1) {o : q_O} {σ' : q_H} {E : (Int64) → q_H → Prop} (v0 : Nat) (v1 : Int32) (v3 : Nat) (v4 : Int64) (v6 : Int64) (hX : ∀ (t : Int64) σ1, E (t) σ1 → q_G (q_rf fo) d m_Li_misfit o σ' 86 [none, none, none, none, none, none, none, none, some (.long t), none, none] [] σ1)  : ∀ (n : Nat) (v8 : Int64) (v10 : Int32) (σ : q_H), q_J E (f_Li_misfit_L45 v0 v1 v3 v4 v6 n v8 v10 σ) (q_G (q_rf fo) d m_Li_misfit o σ' 45 [some (.ref v0), some (.int v1), none, some (.ref v3), some (.long v4), none, some (.long v6), none, some (.long v8), none, some (.int v10)] [] σ)
  | 0, v8, v10, σ => J_none
  | n + 1, v8, v10, σ => by
    unfold f_Li_misfit_L45
    refine q_J.step (fun g => j_iload rfl rfl (j_bipush (17 : Int32) rfl kb_17 (g))) ?_
    refine J_ite (fun h8 => ?_) (fun h8 => ?_)
    · refine J_bind fun x9 hx9 => ?_
      refine J_bind fun w10 hw10 => ?_
      refine J_cl fun x12 σ11 hσ11 => ?_
      exact q_J.step (fun g => j_icmp_f rfl (cc_ge_f h8) (j_lload rfl rfl (j_aload_n rfl rfl (j_iload rfl rfl (j_ial rfl hx9 (j_i2l rfl (j_lload rfl rfl (j_lmul rfl (j_aload_n rfl rfl (j_iload_n rfl rfl (j_iload rfl rfl (j_v1 [.ref v0, .int v1, .int v10] [.long (x9.toInt64 * v6), .long v8] rfl rfl rfl rfl rfl rfl hw10 (Or.inl rfl) (t_Li_living (by omega) hσ11) (j_i2l rfl (j_lload rfl rfl (j_lmul rfl (j_lsub rfl (j_labs rfl rfl (j_ladd rfl (j_lstore [some (.ref v0), some (.int v1), none, some (.ref v3), some (.long v4), none, some (.long v6), none, some (.long (v8 + (if 0 < ((x9.toInt64 * v6) - (x12.toInt64 * v4)) then ((x9.toInt64 * v6) - (x12.toInt64 * v4)) else -((x9.toInt64 * v6) - (x12.toInt64 * v4))))), none, some (.int v10)] rfl rfl (Or.inr True.intro) rfl (j_iinc [some (.ref v0), some (.int v1), none, some (.ref v3), some (.long v4), none, some (.long v6), none, some (.long (v8 + (if 0 < ((x9.toInt64 * v6) - (x12.toInt64 * v4)) then ((x9.toInt64 * v6) - (x12.toInt64 * v4)) else -((x9.toInt64 * v6) - (x12.toInt64 * v4))))), none, some (.int (v10 + (1 : Int32)))] (v10 + (1 : Int32)) rfl rfl (by rw [k32_1]) (Or.inr True.intro) rfl (j_goto rfl (g)))))))))))))))))))))) (l_Li_misfit_L45 hd v0 v1 v3 v4 v6 hX n (v8 + (if 0 < ((x9.toInt64 * v6) - (x12.toInt64 * v4)) then ((x9.toInt64 * v6) - (x12.toInt64 * v4)) else -((x9.toInt64 * v6) - (x12.toInt64 * v4)))) (v10 + (1 : Int32)) σ11)
    exact J_some (fun h => j_icmp_t rfl (cc_ge_t h8) (j_weak (l := [none, none, none, none, none, none, none, none, some (.long v8), none, none]) (And.intro (Or.inl rfl) (And.intro (Or.inl rfl) (And.intro (Or.inr rfl) (And.intro (Or.inl rfl) (And.intro (Or.inl rfl) (And.intro (Or.inr rfl) (And.intro (Or.inl rfl) (And.intro (Or.inr rfl) (And.intro (Or.inr rfl) (And.intro (Or.inr rfl) (And.intro (Or.inl rfl) True.intro))))))))))) (hX _ _ h)))

def f_Li_misfit (v0 : Nat) (v1 : Int32) (v2 : Int32) (v3 : Nat) (σ : q_H) : Option ((Int64) × q_H) := q_sq (f_Li_misfit_L6 v0 v1 v2 v3 q_FU (0 : Int64) v2 σ) fun (t3 : Int64) σ4 => (q_ob σ4 4 v0).bind fun w5 => q_sq (f_Li_livingBetween v0 v1 v2 (17 : Int32) σ4) fun x7 σ6 => q_sq (f_Li_misfit_L45 v0 v1 v3 t3 x7 q_FU (0 : Int64) v2 σ6) fun (t13 : Int64) σ14 => some (t13, σ14)
set_option maxRecDepth 100000 in
theorem b_Li_misfit {fo : Option Nat} {d : Nat} (hd : 3 ≤ d + 1) {o : q_O} {σ' : q_H} (v0 : Nat) (v1 : Int32) (v2 : Int32) (v3 : Nat) (σ : q_H) : q_J (fun (r : Int64) (σ1 : q_H) => o = .inl (some (.long r)) ∧ σ' = σ1) (f_Li_misfit v0 v1 v2 v3 σ) (q_G (q_rf fo) d m_Li_misfit o σ' 0 [some (.ref v0), some (.int v1), some (.int v2), some (.ref v3), none, none, none, none, none, none, none] [] σ) := by
  unfold f_Li_misfit
  refine J_sq (fun (t3 : Int64) (σ4 : q_H) => q_G (q_rf fo) d m_Li_misfit o σ' 29 [some (.ref v0), some (.int v1), some (.int v2), some (.ref v3), some (.long t3), none, none, none, none, none, none] [] σ4) (q_J.step (fun g => j_lconst (0 : Int64) rfl kl_0 (j_lstore [some (.ref v0), some (.int v1), some (.int v2), some (.ref v3), some (.long (0 : Int64)), none, none, none, none, none, none] rfl rfl (Or.inr rfl) rfl (j_iload_n rfl rfl (j_istore [some (.ref v0), some (.int v1), some (.int v2), some (.ref v3), some (.long (0 : Int64)), none, some (.int v2), none, none, none, none] rfl rfl (Or.inr True.intro) rfl (g))))) (l_Li_misfit_L6 hd v0 v1 v2 v3 (fun _ _ h => h) q_FU (0 : Int64) v2 σ)) (fun t3 σ4 => ?_)
  refine J_bind fun w5 hw5 => ?_
  refine J_cl fun x7 σ6 hσ6 => ?_
  refine J_sq (fun (t13 : Int64) (σ14 : q_H) => q_G (q_rf fo) d m_Li_misfit o σ' 86 [none, none, none, none, none, none, none, none, some (.long t13), none, none] [] σ14) (q_J.step (fun g => j_aload_n rfl rfl (j_iload_n rfl rfl (j_iload_n rfl rfl (j_bipush (17 : Int32) rfl kb_17 (j_v1 [.ref v0, .int v1, .int v2, .int (17 : Int32)] [] rfl rfl rfl rfl rfl rfl hw5 (Or.inl rfl) (t_Li_livingBetween (by omega) hσ6) (j_lstore [some (.ref v0), some (.int v1), some (.int v2), some (.ref v3), some (.long t3), none, some (.long x7), none, none, none, none] rfl rfl (Or.inr True.intro) rfl (j_lconst (0 : Int64) rfl kl_0 (j_lstore [some (.ref v0), some (.int v1), some (.int v2), some (.ref v3), some (.long t3), none, some (.long x7), none, some (.long (0 : Int64)), none, none] rfl rfl (Or.inr True.intro) rfl (j_iload_n rfl rfl (j_istore [some (.ref v0), some (.int v1), some (.int v2), some (.ref v3), some (.long t3), none, some (.long x7), none, some (.long (0 : Int64)), none, some (.int v2)] rfl rfl (Or.inr True.intro) rfl (j_weak (l := [some (.ref v0), some (.int v1), none, some (.ref v3), some (.long t3), none, some (.long x7), none, some (.long (0 : Int64)), none, some (.int v2)]) (And.intro (Or.inr rfl) (And.intro (Or.inr rfl) (And.intro (Or.inl rfl) (And.intro (Or.inr rfl) (And.intro (Or.inr rfl) (And.intro (Or.inr rfl) (And.intro (Or.inr rfl) (And.intro (Or.inr rfl) (And.intro (Or.inr rfl) (And.intro (Or.inr rfl) (And.intro (Or.inr rfl) True.intro))))))))))) (g)))))))))))) (l_Li_misfit_L45 hd v0 v1 v3 t3 x7 (fun _ _ h => h) q_FU (0 : Int64) v2 σ6)) (fun t13 σ14 => ?_)
  exact J_some (fun h => j_lload rfl rfl (j_lret rfl rfl h))
theorem t_Li_misfit {fo : Option Nat} {d : Nat} (hd : 3 ≤ d) {v0 : Nat} {v1 : Int32} {v2 : Int32} {v3 : Nat} {σ σ1 : q_H} {r : Int64} (h : f_Li_misfit v0 v1 v2 v3 σ = some (r, σ1)) : q_Rel (q_rf fo) q_Ms d 36 [.ref v0, .int v1, .int v2, .ref v3] σ (.inl (some (.long r))) σ1 := by
  obtain ⟨d, rfl⟩ : ∃ d1, d = d1 + 1 := ⟨d - 1, by omega⟩
  exact q_Rel.of rfl rfl (b_Li_misfit hd _ _ _ _ σ _ _ h ⟨rfl, rfl⟩)

def f_Wo_make_L19 (v0 : Nat) (v2 : Int32) (v3 : Nat) (v4 : Int32) (v5 : Int32) (v6 : Int32) : Nat → Int32 → q_H → Option ((Unit) × q_H)
  | 0, _, _ => none
  | n + 1, v7, σ => if v7 < v2 then ((q_ob σ 5 v0).bind fun w5 => q_sq (f_Wo_bear v0 v3 v4 σ) fun (_ : Unit) σ6 => (q_ob σ6 5 v0).bind fun w8 => q_sq (f_Wo_marry v0 v5 v6 σ6) fun (_ : Unit) σ9 => f_Wo_make_L19 v0 v2 v3 v4 v5 v6 n (v7 + (1 : Int32)) σ9) else (some ((), σ))
set_option maxRecDepth 100000 in
theorem l_Wo_make_L19 {fo : Option Nat} {d : Nat} (hd : 3 ≤ d + 1) {o : q_O} {σ' : q_H} {E : (Unit) → q_H → Prop} (v0 : Nat) (v2 : Int32) (v3 : Nat) (v4 : Int32) (v5 : Int32) (v6 : Int32) (hX : ∀ (t : Unit) σ1, E (t) σ1 → q_G (q_rf fo) d m_Wo_make o σ' 46 [none, none, none, none, none, none, none, none] [] σ1)  : ∀ (n : Nat) (v7 : Int32) (σ : q_H), q_J E (f_Wo_make_L19 v0 v2 v3 v4 v5 v6 n v7 σ) (q_G (q_rf fo) d m_Wo_make o σ' 19 [some (.ref v0), none, some (.int v2), some (.ref v3), some (.int v4), some (.int v5), some (.int v6), some (.int v7)] [] σ)
  | 0, v7, σ => J_none
  | n + 1, v7, σ => by
    unfold f_Wo_make_L19
    refine q_J.step (fun g => j_iload rfl rfl (j_iload_n rfl rfl (g))) ?_
    refine J_ite (fun h4 => ?_) (fun h4 => ?_)
    · refine J_bind fun w5 hw5 => ?_
      refine J_cl fun _ σ6 hσ6 => ?_
      refine J_bind fun w8 hw8 => ?_
      refine J_cl fun _ σ9 hσ9 => ?_
      exact q_J.step (fun g => j_icmp_f rfl (cc_ge_f h4) (j_aload_n rfl rfl (j_aload_n rfl rfl (j_iload rfl rfl (j_v0 [.ref v0, .ref v3, .int v4] [] rfl rfl rfl rfl rfl rfl hw5 (Or.inl rfl) (t_Wo_bear (by omega) hσ6) (j_aload_n rfl rfl (j_iload rfl rfl (j_iload rfl rfl (j_v0 [.ref v0, .int v5, .int v6] [] rfl rfl rfl rfl rfl rfl hw8 (Or.inl rfl) (t_Wo_marry (by omega) hσ9) (j_iinc [some (.ref v0), none, some (.int v2), some (.ref v3), some (.int v4), some (.int v5), some (.int v6), some (.int (v7 + (1 : Int32)))] (v7 + (1 : Int32)) rfl rfl (by rw [k32_1]) (Or.inr rfl) rfl (j_goto rfl (g)))))))))))) (l_Wo_make_L19 hd v0 v2 v3 v4 v5 v6 hX n (v7 + (1 : Int32)) σ9)
    exact J_some (fun h => j_icmp_t rfl (cc_ge_t h4) (j_weak (l := [none, none, none, none, none, none, none, none]) (And.intro (Or.inl rfl) (And.intro (Or.inr rfl) (And.intro (Or.inl rfl) (And.intro (Or.inl rfl) (And.intro (Or.inl rfl) (And.intro (Or.inl rfl) (And.intro (Or.inl rfl) (And.intro (Or.inl rfl) True.intro)))))))) (hX _ _ h)))

def f_Wo_make (v0 : Nat) (v1 : Int32) (v2 : Int32) (v3 : Nat) (v4 : Int32) (v5 : Int32) (v6 : Int32) (σ : q_H) : Option ((Unit) × q_H) := (q_sf σ 5 v0 2 (.long v1.toInt64)).bind fun σ1 => (q_sf σ1 5 v0 0 (.int (0 : Int32))).bind fun σ2 => (q_sf σ2 5 v0 1 (.int (0 : Int32))).bind fun σ3 => q_sq (f_Wo_make_L19 v0 v2 v3 v4 v5 v6 q_FU (0 : Int32) σ3) fun (t11 : Unit) σ12 => some ((), σ12)
set_option maxRecDepth 100000 in
theorem b_Wo_make {fo : Option Nat} {d : Nat} (hd : 3 ≤ d + 1) {o : q_O} {σ' : q_H} (v0 : Nat) (v1 : Int32) (v2 : Int32) (v3 : Nat) (v4 : Int32) (v5 : Int32) (v6 : Int32) (σ : q_H) : q_J (fun (r : Unit) (σ1 : q_H) => o = .inl none ∧ σ' = σ1) (f_Wo_make v0 v1 v2 v3 v4 v5 v6 σ) (q_G (q_rf fo) d m_Wo_make o σ' 0 [some (.ref v0), some (.int v1), some (.int v2), some (.ref v3), some (.int v4), some (.int v5), some (.int v6), none] [] σ) := by
  unfold f_Wo_make
  refine J_bind fun σ1 hσ1 => ?_
  refine J_bind fun σ2 hσ2 => ?_
  refine J_bind fun σ3 hσ3 => ?_
  refine J_sq (fun (t11 : Unit) (σ12 : q_H) => q_G (q_rf fo) d m_Wo_make o σ' 46 [none, none, none, none, none, none, none, none] [] σ12) (q_J.step (fun g => j_aload_n rfl rfl (j_iload_n rfl rfl (j_i2l rfl (j_putf rfl rfl rfl rfl hσ1 (j_aload_n rfl rfl (j_iconst (0 : Int32) rfl k32_0 (j_putf rfl rfl rfl rfl hσ2 (j_aload_n rfl rfl (j_iconst (0 : Int32) rfl k32_0 (j_putf rfl rfl rfl rfl hσ3 (j_iconst (0 : Int32) rfl k32_0 (j_istore [some (.ref v0), some (.int v1), some (.int v2), some (.ref v3), some (.int v4), some (.int v5), some (.int v6), some (.int (0 : Int32))] rfl rfl (Or.inr rfl) rfl (j_weak (l := [some (.ref v0), none, some (.int v2), some (.ref v3), some (.int v4), some (.int v5), some (.int v6), some (.int (0 : Int32))]) (And.intro (Or.inr rfl) (And.intro (Or.inl rfl) (And.intro (Or.inr rfl) (And.intro (Or.inr rfl) (And.intro (Or.inr rfl) (And.intro (Or.inr rfl) (And.intro (Or.inr rfl) (And.intro (Or.inr rfl) True.intro)))))))) (g)))))))))))))) (l_Wo_make_L19 hd v0 v2 v3 v4 v5 v6 (fun _ _ h => h) q_FU (0 : Int32) σ3)) (fun t11 σ12 => ?_)
  exact J_some (fun h => j_vret rfl rfl h)
theorem t_Wo_make {fo : Option Nat} {d : Nat} (hd : 3 ≤ d) {v0 : Nat} {v1 : Int32} {v2 : Int32} {v3 : Nat} {v4 : Int32} {v5 : Int32} {v6 : Int32} {σ σ1 : q_H} {r : Unit} (h : f_Wo_make v0 v1 v2 v3 v4 v5 v6 σ = some (r, σ1)) : q_Rel (q_rf fo) q_Ms d 42 [.ref v0, .int v1, .int v2, .ref v3, .int v4, .int v5, .int v6] σ (.inl none) σ1 := by
  obtain ⟨d, rfl⟩ : ∃ d1, d = d1 + 1 := ⟨d - 1, by omega⟩
  exact q_Rel.of rfl rfl (b_Wo_make hd _ _ _ _ _ _ _ σ _ _ h ⟨rfl, rfl⟩)

def f_Pa_adoptedOf (v0 : Nat) (v1 : Int32) (v2 : Int32) (σ : q_H) : Option ((Int32) × q_H) := (q_gr (q_gf σ 8 v0 9)).bind fun x1 => (q_gi (q_ga σ 20 x1 v1)).bind fun x2 => if x2 = (0 : Int32) then ((q_gr (q_gf σ 8 v0 6)).bind fun x4 => (q_gi (q_ga σ 20 x4 v1)).bind fun x5 => (q_gr (q_gf σ 8 v0 6)).bind fun x6 => (q_gi (q_ga σ 20 x6 v2)).bind fun x7 => if ((x5 ||| x7) &&& (2 : Int32)) = (0 : Int32) then ((q_ob σ 8 v0).bind fun w9 => q_sq (f_Pa_fullOthers v0 v1 v2 (0 : Int32) σ) fun x11 σ10 => if x11 = (0 : Int32) then (some ((1 : Int32), σ10)) else (some ((0 : Int32), σ10))) else (some ((2 : Int32), σ))) else ((q_gr (q_gf σ 8 v0 9)).bind fun x13 => (q_gi (q_ga σ 20 x13 v1)).bind fun x14 => if x14 = (2 : Int32) then ((q_gr (q_gf σ 8 v0 6)).bind fun x16 => (q_gi (q_ga σ 20 x16 v1)).bind fun x17 => (q_gr (q_gf σ 8 v0 6)).bind fun x18 => (q_gi (q_ga σ 20 x18 v2)).bind fun x19 => if ((x17 ||| x19) &&& (2 : Int32)) = (0 : Int32) then ((q_ob σ 8 v0).bind fun w21 => q_sq (f_Pa_fullOthers v0 v1 v2 (0 : Int32) σ) fun x23 σ22 => if x23 = (0 : Int32) then (some ((1 : Int32), σ22)) else (some ((0 : Int32), σ22))) else (some ((2 : Int32), σ))) else (some ((-1 : Int32), σ)))
set_option maxRecDepth 100000 in
theorem b_Pa_adoptedOf {fo : Option Nat} {d : Nat} (hd : 3 ≤ d + 1) {o : q_O} {σ' : q_H} (v0 : Nat) (v1 : Int32) (v2 : Int32) (σ : q_H) : q_J (fun (r : Int32) (σ1 : q_H) => o = .inl (some (.int r)) ∧ σ' = σ1) (f_Pa_adoptedOf v0 v1 v2 σ) (q_G (q_rf fo) d m_Pa_adoptedOf o σ' 0 [some (.ref v0), some (.int v1), some (.int v2)] [] σ) := by
  unfold f_Pa_adoptedOf
  refine J_bind fun x1 hx1 => ?_
  refine J_bind fun x2 hx2 => ?_
  refine q_J.step (fun g => j_aload_n rfl rfl (j_gfr rfl hx1 (j_iload_n rfl rfl (j_ial rfl hx2 (g))))) ?_
  refine J_ite (fun h3 => ?_) (fun h3 => ?_)
  · refine J_bind fun x4 hx4 => ?_
    refine J_bind fun x5 hx5 => ?_
    refine J_bind fun x6 hx6 => ?_
    refine J_bind fun x7 hx7 => ?_
    refine q_J.step (fun g => j_if_t rfl (cc_eq_t h3) (j_aload_n rfl rfl (j_gfr rfl hx4 (j_iload_n rfl rfl (j_ial rfl hx5 (j_aload_n rfl rfl (j_gfr rfl hx6 (j_iload_n rfl rfl (j_ial rfl hx7 (j_ior rfl (j_iconst (2 : Int32) rfl k32_2 (j_iand rfl (g))))))))))))) ?_
    refine J_ite (fun h8 => ?_) (fun h8 => ?_)
    · refine J_bind fun w9 hw9 => ?_
      refine J_cl fun x11 σ10 hσ10 => ?_
      refine q_J.step (fun g => j_if_t rfl (cc_eq_t h8) (j_aload_n rfl rfl (j_iload_n rfl rfl (j_iload_n rfl rfl (j_iconst (0 : Int32) rfl k32_0 (j_v1 [.ref v0, .int v1, .int v2, .int (0 : Int32)] [] rfl rfl rfl rfl rfl rfl hw9 (Or.inl rfl) (t_Pa_fullOthers (by omega) hσ10) (g))))))) ?_
      refine J_ite (fun h12 => ?_) (fun h12 => ?_)
      · exact J_some (fun h => j_if_f rfl (cc_ne_f h12) (j_iconst (1 : Int32) rfl k32_1 (j_goto rfl (j_iret rfl rfl h))))
      exact J_some (fun h => j_if_t rfl (cc_ne_t h12) (j_iconst (0 : Int32) rfl k32_0 (j_iret rfl rfl h)))
    exact J_some (fun h => j_if_f rfl (cc_eq_f h8) (j_iconst (2 : Int32) rfl k32_2 (j_iret rfl rfl h)))
  refine J_bind fun x13 hx13 => ?_
  refine J_bind fun x14 hx14 => ?_
  refine q_J.step (fun g => j_if_f rfl (cc_eq_f h3) (j_aload_n rfl rfl (j_gfr rfl hx13 (j_iload_n rfl rfl (j_ial rfl hx14 (j_iconst (2 : Int32) rfl k32_2 (g))))))) ?_
  refine J_ite (fun h15 => ?_) (fun h15 => ?_)
  · refine J_bind fun x16 hx16 => ?_
    refine J_bind fun x17 hx17 => ?_
    refine J_bind fun x18 hx18 => ?_
    refine J_bind fun x19 hx19 => ?_
    refine q_J.step (fun g => j_icmp_t rfl (cc_eq_t h15) (j_aload_n rfl rfl (j_gfr rfl hx16 (j_iload_n rfl rfl (j_ial rfl hx17 (j_aload_n rfl rfl (j_gfr rfl hx18 (j_iload_n rfl rfl (j_ial rfl hx19 (j_ior rfl (j_iconst (2 : Int32) rfl k32_2 (j_iand rfl (g))))))))))))) ?_
    refine J_ite (fun h20 => ?_) (fun h20 => ?_)
    · refine J_bind fun w21 hw21 => ?_
      refine J_cl fun x23 σ22 hσ22 => ?_
      refine q_J.step (fun g => j_if_t rfl (cc_eq_t h20) (j_aload_n rfl rfl (j_iload_n rfl rfl (j_iload_n rfl rfl (j_iconst (0 : Int32) rfl k32_0 (j_v1 [.ref v0, .int v1, .int v2, .int (0 : Int32)] [] rfl rfl rfl rfl rfl rfl hw21 (Or.inl rfl) (t_Pa_fullOthers (by omega) hσ22) (g))))))) ?_
      refine J_ite (fun h24 => ?_) (fun h24 => ?_)
      · exact J_some (fun h => j_if_f rfl (cc_ne_f h24) (j_iconst (1 : Int32) rfl k32_1 (j_goto rfl (j_iret rfl rfl h))))
      exact J_some (fun h => j_if_t rfl (cc_ne_t h24) (j_iconst (0 : Int32) rfl k32_0 (j_iret rfl rfl h)))
    exact J_some (fun h => j_if_f rfl (cc_eq_f h20) (j_iconst (2 : Int32) rfl k32_2 (j_iret rfl rfl h)))
  exact J_some (fun h => j_icmp_f rfl (cc_eq_f h15) (j_iconst (-1 : Int32) rfl k32_m1 (j_iret rfl rfl h)))
theorem t_Pa_adoptedOf {fo : Option Nat} {d : Nat} (hd : 3 ≤ d) {v0 : Nat} {v1 : Int32} {v2 : Int32} {σ σ1 : q_H} {r : Int32} (h : f_Pa_adoptedOf v0 v1 v2 σ = some (r, σ1)) : q_Rel (q_rf fo) q_Ms d 68 [.ref v0, .int v1, .int v2] σ (.inl (some (.int r))) σ1 := by
  obtain ⟨d, rfl⟩ : ∃ d1, d = d1 + 1 := ⟨d - 1, by omega⟩
  exact q_Rel.of rfl rfl (b_Pa_adoptedOf hd _ _ _ σ _ _ h ⟨rfl, rfl⟩)

def f_Sr_init (v0 : Nat) (v1 : Nat) (v2 : Nat) (σ : q_H) : Option ((Unit) × q_H) := q_ma σ 8 [.int 0, .null, .null, .null, .null, .null, .null, .null, .null, .null, .null, .null] fun σ1 a2 => q_sq (f_Pa_init a2 σ1) fun (_ : Unit) σ3 => (q_sf σ3 7 v0 2 (.ref a2)).bind fun σ5 => (q_sf σ5 7 v0 0 (.ref v1)).bind fun σ6 => (q_sf σ6 7 v0 1 (.ref v2)).bind fun σ7 => some ((), σ7)
set_option maxRecDepth 100000 in
theorem b_Sr_init {fo : Option Nat} {d : Nat} (hd : 3 ≤ d + 1) {o : q_O} {σ' : q_H} (v0 : Nat) (v1 : Nat) (v2 : Nat) (σ : q_H) : q_J (fun (r : Unit) (σ1 : q_H) => o = .inl none ∧ σ' = σ1) (f_Sr_init v0 v1 v2 σ) (q_G (q_rf fo) d m_Sr_init o σ' 0 [some (.ref v0), some (.ref v1), some (.ref v2)] [] σ) := by
  unfold f_Sr_init
  refine J_ma fun σ1 a2 hσ1 ha2 => ?_
  refine J_cl fun _ σ3 hσ3 => ?_
  refine J_bind fun σ5 hσ5 => ?_
  refine J_bind fun σ6 hσ6 => ?_
  refine J_bind fun σ7 hσ7 => ?_
  exact J_some (fun h => j_aload_n rfl rfl (j_obj rfl rfl (j_aload_n rfl rfl (j_newk2 [.int 0, .null, .null, .null, .null, .null, .null, .null, .null, .null, .null, .null] rfl rfl rfl hσ1 ha2 (j_dup rfl rfl (j_i0 [.ref a2] [.ref a2, .ref v0] rfl rfl rfl rfl rfl rfl (t_Pa_init (by omega) hσ3) (j_putf rfl rfl rfl rfl hσ5 (j_aload_n rfl rfl (j_aload_n rfl rfl (j_putf rfl rfl rfl rfl hσ6 (j_aload_n rfl rfl (j_aload_n rfl rfl (j_putf rfl rfl rfl rfl hσ7 (j_vret rfl rfl h))))))))))))))
theorem t_Sr_init {fo : Option Nat} {d : Nat} (hd : 3 ≤ d) {v0 : Nat} {v1 : Nat} {v2 : Nat} {σ σ1 : q_H} {r : Unit} (h : f_Sr_init v0 v1 v2 σ = some (r, σ1)) : q_Rel (q_rf fo) q_Ms d 72 [.ref v0, .ref v1, .ref v2] σ (.inl none) σ1 := by
  obtain ⟨d, rfl⟩ : ∃ d1, d = d1 + 1 := ⟨d - 1, by omega⟩
  exact q_Rel.of rfl rfl (b_Sr_init hd _ _ _ σ _ _ h ⟨rfl, rfl⟩)

def f_Sf_pageWithin (v0 : Nat) (v1 : Int32) (v2 : Int32) (v3 : Int32) (σ : q_H) : Option ((Option Nat) × q_H) := (q_ob σ 2 v0).bind fun w1 => q_sq (f_Sf_pageOf v0 v1 σ) fun x3 σ2 => match x3 with | none => (some (none, σ2)) | some a4 => (if v2 = (0 : Int32) then (some (some a4, σ2)) else (q_sq (if v2 = (1 : Int32) then ((q_gr (q_gf σ2 2 v0 1)).bind fun x7 => (q_gi (q_ga σ2 20 x7 v1)).bind fun x8 => some (x8, σ2)) else (if v2 = (2 : Int32) then ((q_gr (q_gf σ2 2 v0 2)).bind fun x10 => (q_gi (q_ga σ2 20 x10 v1)).bind fun x11 => some (x11, σ2)) else ((q_gr (q_gf σ2 2 v0 5)).bind fun x12 => (q_gr (q_gf σ2 2 v0 1)).bind fun x13 => (q_gi (q_ga σ2 20 x13 v1)).bind fun x14 => (q_gi (q_ga σ2 20 x12 x14)).bind fun x15 => some (x15, σ2)))) fun (t16 : Int32) σ17 => if t16 = v3 then (some (some a4, σ17)) else (some (none, σ17))))
set_option maxRecDepth 100000 in
theorem b_Sf_pageWithin {fo : Option Nat} {d : Nat} (hd : 3 ≤ d + 1) {o : q_O} {σ' : q_H} (v0 : Nat) (v1 : Int32) (v2 : Int32) (v3 : Int32) (σ : q_H) : q_J (fun (r : Option Nat) (σ1 : q_H) => o = .inl (some (q_rf r)) ∧ σ' = σ1) (f_Sf_pageWithin v0 v1 v2 v3 σ) (q_G (q_rf fo) d m_Sf_pageWithin o σ' 0 [some (.ref v0), some (.int v1), some (.int v2), some (.int v3), none, none] [] σ) := by
  unfold f_Sf_pageWithin
  refine J_bind fun w1 hw1 => ?_
  refine J_cl fun x3 σ2 hσ2 => ?_
  refine q_J.step (fun g => j_aload_n rfl rfl (j_iload_n rfl rfl (j_v1 [.ref v0, .int v1] [] rfl rfl rfl rfl rfl rfl hw1 (Or.inl rfl) (t_Sf_pageOf (by omega) hσ2) (j_astoreO (x := x3) [some (.ref v0), some (.int v1), some (.int v2), some (.int v3), some (q_rf x3), none] rfl rfl (Or.inr rfl) rfl (j_aloadO (x := x3) rfl rfl (g)))))) ?_
  cases ha4 : x3 with
  | none =>
    try subst ha4
    exact J_some (fun h => j_nul_t rfl (j_aloadO (x := none) rfl rfl (j_aret (x := none) rfl (Or.inl ⟨_, rfl⟩) h)))
  | some a4 =>
    try subst ha4
    refine q_J.step (fun g => j_nul_f rfl (j_iload_n rfl rfl (g))) ?_
    refine J_ite (fun h5 => ?_) (fun h5 => ?_)
    · exact J_some (fun h => j_if_f rfl (cc_ne_f h5) (j_aload rfl rfl (j_aret (x := some a4) rfl (Or.inl ⟨_, rfl⟩) h)))
    refine q_J.step (fun g => j_if_t rfl (cc_ne_t h5) (j_iload_n rfl rfl (j_iconst (1 : Int32) rfl k32_1 (g)))) ?_
    refine J_sq (fun (t16 : Int32) (σ17 : q_H) => q_G (q_rf fo) d m_Sf_pageWithin o σ' 58 [none, none, none, some (.int v3), some (.ref a4), none] [.int t16] σ17) ?_ (fun t16 σ17 => ?_)
    · refine J_ite (fun h6 => ?_) (fun h6 => ?_)
      · refine J_bind fun x7 hx7 => ?_
        refine J_bind fun x8 hx8 => ?_
        exact J_some (fun h => j_icmp_f rfl (cc_ne_f h6) (j_aload_n rfl rfl (j_gfr rfl hx7 (j_iload_n rfl rfl (j_ial rfl hx8 (j_goto rfl (j_weak (l := [none, none, none, some (.int v3), some (.ref a4), none]) (And.intro (Or.inl rfl) (And.intro (Or.inl rfl) (And.intro (Or.inl rfl) (And.intro (Or.inr rfl) (And.intro (Or.inr rfl) (And.intro (Or.inr rfl) True.intro)))))) (h))))))))
      refine q_J.step (fun g => j_icmp_t rfl (cc_ne_t h6) (j_iload_n rfl rfl (j_iconst (2 : Int32) rfl k32_2 (g)))) ?_
      refine J_ite (fun h9 => ?_) (fun h9 => ?_)
      · refine J_bind fun x10 hx10 => ?_
        refine J_bind fun x11 hx11 => ?_
        exact J_some (fun h => j_icmp_f rfl (cc_ne_f h9) (j_aload_n rfl rfl (j_gfr rfl hx10 (j_iload_n rfl rfl (j_ial rfl hx11 (j_goto rfl (j_weak (l := [none, none, none, some (.int v3), some (.ref a4), none]) (And.intro (Or.inl rfl) (And.intro (Or.inl rfl) (And.intro (Or.inl rfl) (And.intro (Or.inr rfl) (And.intro (Or.inr rfl) (And.intro (Or.inr rfl) True.intro)))))) (h))))))))
      refine J_bind fun x12 hx12 => ?_
      refine J_bind fun x13 hx13 => ?_
      refine J_bind fun x14 hx14 => ?_
      refine J_bind fun x15 hx15 => ?_
      exact J_some (fun h => j_icmp_t rfl (cc_ne_t h9) (j_aload_n rfl rfl (j_gfr rfl hx12 (j_aload_n rfl rfl (j_gfr rfl hx13 (j_iload_n rfl rfl (j_ial rfl hx14 (j_ial rfl hx15 (j_weak (l := [none, none, none, some (.int v3), some (.ref a4), none]) (And.intro (Or.inl rfl) (And.intro (Or.inl rfl) (And.intro (Or.inl rfl) (And.intro (Or.inr rfl) (And.intro (Or.inr rfl) (And.intro (Or.inr rfl) True.intro)))))) (h))))))))))
    refine q_J.step (fun g => j_istore [none, none, none, some (.int v3), some (.ref a4), some (.int t16)] rfl rfl (Or.inr rfl) rfl (j_iload rfl rfl (j_iload_n rfl rfl (g)))) ?_
    refine J_ite (fun h18 => ?_) (fun h18 => ?_)
    · exact J_some (fun h => j_icmp_f rfl (cc_ne_f h18) (j_aload rfl rfl (j_goto rfl (j_aret (x := some a4) rfl (Or.inl ⟨_, rfl⟩) h))))
    exact J_some (fun h => j_icmp_t rfl (cc_ne_t h18) (j_null rfl (j_aret (x := none) rfl (Or.inl ⟨_, rfl⟩) h)))
theorem t_Sf_pageWithin {fo : Option Nat} {d : Nat} (hd : 3 ≤ d) {v0 : Nat} {v1 : Int32} {v2 : Int32} {v3 : Int32} {σ σ1 : q_H} {r : Option Nat} (h : f_Sf_pageWithin v0 v1 v2 v3 σ = some (r, σ1)) : q_Rel (q_rf fo) q_Ms d 83 [.ref v0, .int v1, .int v2, .int v3] σ (.inl (some (q_rf r))) σ1 := by
  obtain ⟨d, rfl⟩ : ∃ d1, d = d1 + 1 := ⟨d - 1, by omega⟩
  exact q_Rel.of rfl rfl (b_Sf_pageWithin hd _ _ _ _ σ _ _ h ⟨rfl, rfl⟩)

def f_Sf_isUnread (v0 : Nat) (v1 : Int32) (σ : q_H) : Option ((Int32) × q_H) := (q_ob σ 2 v0).bind fun w1 => q_sq (f_Sf_isTold v0 v1 σ) fun x3 σ2 => if x3 = (0 : Int32) then (some ((0 : Int32), σ2)) else ((q_gr (q_gf σ2 2 v0 4)).bind fun x5 => (q_go (q_ga σ2 25 x5 v1)).bind fun x6 => match x6 with | none => (some ((1 : Int32), σ2)) | some a7 => (some ((0 : Int32), σ2)))
set_option maxRecDepth 100000 in
theorem b_Sf_isUnread {fo : Option Nat} {d : Nat} (hd : 3 ≤ d + 1) {o : q_O} {σ' : q_H} (v0 : Nat) (v1 : Int32) (σ : q_H) : q_J (fun (r : Int32) (σ1 : q_H) => o = .inl (some (.int r)) ∧ σ' = σ1) (f_Sf_isUnread v0 v1 σ) (q_G (q_rf fo) d m_Sf_isUnread o σ' 0 [some (.ref v0), some (.int v1)] [] σ) := by
  unfold f_Sf_isUnread
  refine J_bind fun w1 hw1 => ?_
  refine J_cl fun x3 σ2 hσ2 => ?_
  refine q_J.step (fun g => j_aload_n rfl rfl (j_iload_n rfl rfl (j_v1 [.ref v0, .int v1] [] rfl rfl rfl rfl rfl rfl hw1 (Or.inl rfl) (t_Sf_isTold (by omega) hσ2) (g)))) ?_
  refine J_ite (fun h4 => ?_) (fun h4 => ?_)
  · exact J_some (fun h => j_if_t rfl (cc_eq_t h4) (j_iconst (0 : Int32) rfl k32_0 (j_iret rfl (q_zr (Or.inl rfl)) h)))
  refine J_bind fun x5 hx5 => ?_
  refine J_bind fun x6 hx6 => ?_
  refine q_J.step (fun g => j_if_f rfl (cc_eq_f h4) (j_aload_n rfl rfl (j_gfr rfl hx5 (j_iload_n rfl rfl (j_aalO rfl rfl hx6 (g)))))) ?_
  cases ha7 : x6 with
  | none =>
    try subst ha7
    exact J_some (fun h => j_non_f rfl (j_iconst (1 : Int32) rfl k32_1 (j_goto rfl (j_iret rfl (q_zr (Or.inr rfl)) h))))
  | some a7 =>
    try subst ha7
    exact J_some (fun h => j_non_t rfl (j_iconst (0 : Int32) rfl k32_0 (j_iret rfl (q_zr (Or.inl rfl)) h)))
theorem t_Sf_isUnread {fo : Option Nat} {d : Nat} (hd : 3 ≤ d) {v0 : Nat} {v1 : Int32} {σ σ1 : q_H} {r : Int32} (h : f_Sf_isUnread v0 v1 σ = some (r, σ1)) : q_Rel (q_rf fo) q_Ms d 84 [.ref v0, .int v1] σ (.inl (some (.int r))) σ1 := by
  obtain ⟨d, rfl⟩ : ∃ d1, d = d1 + 1 := ⟨d - 1, by omega⟩
  exact q_Rel.of rfl rfl (b_Sf_isUnread hd _ _ σ _ _ h ⟨rfl, rfl⟩)

def f_Sf_canShareLines (v0 : Nat) (v1 : Int32) (v2 : Int32) (σ : q_H) : Option ((Int32) × q_H) := (q_ob σ 2 v0).bind fun w1 => q_sq (f_Sf_pageOf v0 v1 σ) fun x3 σ2 => match x3 with | none => (some ((0 : Int32), σ2)) | some a4 => ((q_ob σ2 2 v0).bind fun w5 => q_sq (f_Sf_pageOf v0 v2 σ2) fun x7 σ6 => match x7 with | none => (some ((0 : Int32), σ6)) | some a8 => ((q_gr (q_gf σ6 2 v0 1)).bind fun x9 => (q_gi (q_ga σ6 20 x9 v1)).bind fun x10 => (q_gr (q_gf σ6 2 v0 1)).bind fun x11 => (q_gi (q_ga σ6 20 x11 v2)).bind fun x12 => if x10 = x12 then ((q_gr (q_gf σ6 2 v0 2)).bind fun x14 => (q_gi (q_ga σ6 20 x14 v1)).bind fun x15 => (q_gr (q_gf σ6 2 v0 2)).bind fun x16 => (q_gi (q_ga σ6 20 x16 v2)).bind fun x17 => if x15 = x17 then (some ((0 : Int32), σ6)) else (some ((1 : Int32), σ6))) else (some ((0 : Int32), σ6))))
set_option maxRecDepth 100000 in
theorem b_Sf_canShareLines {fo : Option Nat} {d : Nat} (hd : 3 ≤ d + 1) {o : q_O} {σ' : q_H} (v0 : Nat) (v1 : Int32) (v2 : Int32) (σ : q_H) : q_J (fun (r : Int32) (σ1 : q_H) => o = .inl (some (.int r)) ∧ σ' = σ1) (f_Sf_canShareLines v0 v1 v2 σ) (q_G (q_rf fo) d m_Sf_canShareLines o σ' 0 [some (.ref v0), some (.int v1), some (.int v2)] [] σ) := by
  unfold f_Sf_canShareLines
  refine J_bind fun w1 hw1 => ?_
  refine J_cl fun x3 σ2 hσ2 => ?_
  refine q_J.step (fun g => j_aload_n rfl rfl (j_iload_n rfl rfl (j_v1 [.ref v0, .int v1] [] rfl rfl rfl rfl rfl rfl hw1 (Or.inl rfl) (t_Sf_pageOf (by omega) hσ2) (g)))) ?_
  cases ha4 : x3 with
  | none =>
    try subst ha4
    exact J_some (fun h => j_nul_t rfl (j_iconst (0 : Int32) rfl k32_0 (j_iret rfl (q_zr (Or.inl rfl)) h)))
  | some a4 =>
    try subst ha4
    refine J_bind fun w5 hw5 => ?_
    refine J_cl fun x7 σ6 hσ6 => ?_
    refine q_J.step (fun g => j_nul_f rfl (j_aload_n rfl rfl (j_iload_n rfl rfl (j_v1 [.ref v0, .int v2] [] rfl rfl rfl rfl rfl rfl hw5 (Or.inl rfl) (t_Sf_pageOf (by omega) hσ6) (g))))) ?_
    cases ha8 : x7 with
    | none =>
      try subst ha8
      exact J_some (fun h => j_nul_t rfl (j_iconst (0 : Int32) rfl k32_0 (j_iret rfl (q_zr (Or.inl rfl)) h)))
    | some a8 =>
      try subst ha8
      refine J_bind fun x9 hx9 => ?_
      refine J_bind fun x10 hx10 => ?_
      refine J_bind fun x11 hx11 => ?_
      refine J_bind fun x12 hx12 => ?_
      refine q_J.step (fun g => j_nul_f rfl (j_aload_n rfl rfl (j_gfr rfl hx9 (j_iload_n rfl rfl (j_ial rfl hx10 (j_aload_n rfl rfl (j_gfr rfl hx11 (j_iload_n rfl rfl (j_ial rfl hx12 (g)))))))))) ?_
      refine J_ite (fun h13 => ?_) (fun h13 => ?_)
      · refine J_bind fun x14 hx14 => ?_
        refine J_bind fun x15 hx15 => ?_
        refine J_bind fun x16 hx16 => ?_
        refine J_bind fun x17 hx17 => ?_
        refine q_J.step (fun g => j_icmp_f rfl (cc_ne_f h13) (j_aload_n rfl rfl (j_gfr rfl hx14 (j_iload_n rfl rfl (j_ial rfl hx15 (j_aload_n rfl rfl (j_gfr rfl hx16 (j_iload_n rfl rfl (j_ial rfl hx17 (g)))))))))) ?_
        refine J_ite (fun h18 => ?_) (fun h18 => ?_)
        · exact J_some (fun h => j_icmp_t rfl (cc_eq_t h18) (j_iconst (0 : Int32) rfl k32_0 (j_iret rfl (q_zr (Or.inl rfl)) h)))
        exact J_some (fun h => j_icmp_f rfl (cc_eq_f h18) (j_iconst (1 : Int32) rfl k32_1 (j_goto rfl (j_iret rfl (q_zr (Or.inr rfl)) h))))
      exact J_some (fun h => j_icmp_t rfl (cc_ne_t h13) (j_iconst (0 : Int32) rfl k32_0 (j_iret rfl (q_zr (Or.inl rfl)) h)))
theorem t_Sf_canShareLines {fo : Option Nat} {d : Nat} (hd : 3 ≤ d) {v0 : Nat} {v1 : Int32} {v2 : Int32} {σ σ1 : q_H} {r : Int32} (h : f_Sf_canShareLines v0 v1 v2 σ = some (r, σ1)) : q_Rel (q_rf fo) q_Ms d 87 [.ref v0, .int v1, .int v2] σ (.inl (some (.int r))) σ1 := by
  obtain ⟨d, rfl⟩ : ∃ d1, d = d1 + 1 := ⟨d - 1, by omega⟩
  exact q_Rel.of rfl rfl (b_Sf_canShareLines hd _ _ _ σ _ _ h ⟨rfl, rfl⟩)

def f_Sf_match (v0 : Nat) (v1 : Int32) (v2 : Nat) (v3 : Int32) (v4 : Int32) (v5 : Nat) (σ : q_H) : Option ((Int32) × q_H) := (q_gr (q_gf σ 8 v2 1)).bind fun x1 => (q_gl' (q_ga σ 21 x1 v3)).bind fun x2 => (q_ob σ 8 v5).bind fun w3 => q_sq (f_Pa_lineOf v5 x2 σ) fun x5 σ4 => if x5 = (-1 : Int32) then (some ((-1 : Int32), σ4)) else ((q_gr (q_gf σ4 8 v2 4)).bind fun x7 => (q_gi (q_ga σ4 22 x7 v3)).bind fun x8 => (q_gr (q_gf σ4 8 v5 4)).bind fun x9 => (q_gi (q_ga σ4 22 x9 x5)).bind fun x10 => if x8 = x10 then ((q_ob σ4 8 v2).bind fun w12 => q_sq (f_Pa_isFull v2 v3 v5 x5 σ4) fun x14 σ13 => if x14 = (0 : Int32) then (some ((-1 : Int32), σ13)) else ((q_ob σ13 2 v0).bind fun w16 => q_sq (f_Sf_firstBorn v0 v1 v2 v3 σ13) fun x18 σ17 => (q_ob σ17 2 v0).bind fun w19 => q_sq (f_Sf_lastBorn v0 v4 v5 x5 σ17) fun x21 σ20 => if x21 < x18 then (if (0 : Int32) = (0 : Int32) then (some ((-1 : Int32), σ20)) else (some (x5, σ20))) else ((q_ob σ20 2 v0).bind fun w24 => q_sq (f_Sf_firstBorn v0 v4 v5 x5 σ20) fun x26 σ25 => (q_ob σ25 2 v0).bind fun w27 => q_sq (f_Sf_lastBorn v0 v1 v2 v3 σ25) fun x29 σ28 => q_sq (if x29 < x26 then (some ((0 : Int32), σ28)) else (some ((1 : Int32), σ28))) fun (t31 : Int32) σ32 => if t31 = (0 : Int32) then (some ((-1 : Int32), σ32)) else (some (x5, σ32))))) else (some ((-1 : Int32), σ4)))
set_option maxRecDepth 100000 in
theorem b_Sf_match {fo : Option Nat} {d : Nat} (hd : 3 ≤ d + 1) {o : q_O} {σ' : q_H} (v0 : Nat) (v1 : Int32) (v2 : Nat) (v3 : Int32) (v4 : Int32) (v5 : Nat) (σ : q_H) : q_J (fun (r : Int32) (σ1 : q_H) => o = .inl (some (.int r)) ∧ σ' = σ1) (f_Sf_match v0 v1 v2 v3 v4 v5 σ) (q_G (q_rf fo) d m_Sf_match o σ' 0 [some (.ref v0), some (.int v1), some (.ref v2), some (.int v3), some (.int v4), some (.ref v5), none, none] [] σ) := by
  unfold f_Sf_match
  refine J_bind fun x1 hx1 => ?_
  refine J_bind fun x2 hx2 => ?_
  refine J_bind fun w3 hw3 => ?_
  refine J_cl fun x5 σ4 hσ4 => ?_
  refine q_J.step (fun g => j_aload rfl rfl (j_aload_n rfl rfl (j_gfr rfl hx1 (j_iload_n rfl rfl (j_lal rfl hx2 (j_v1 [.ref v5, .long x2] [] rfl rfl rfl rfl rfl rfl hw3 (Or.inl rfl) (t_Pa_lineOf (by omega) hσ4) (j_istore [some (.ref v0), some (.int v1), some (.ref v2), some (.int v3), some (.int v4), some (.ref v5), some (.int x5), none] rfl rfl (Or.inr rfl) rfl (j_iload rfl rfl (j_iconst (-1 : Int32) rfl k32_m1 (g)))))))))) ?_
  refine J_ite (fun h6 => ?_) (fun h6 => ?_)
  · exact J_some (fun h => j_icmp_t rfl (cc_eq_t h6) (j_iconst (-1 : Int32) rfl k32_m1 (j_iret rfl rfl h)))
  refine J_bind fun x7 hx7 => ?_
  refine J_bind fun x8 hx8 => ?_
  refine J_bind fun x9 hx9 => ?_
  refine J_bind fun x10 hx10 => ?_
  refine q_J.step (fun g => j_icmp_f rfl (cc_eq_f h6) (j_aload_n rfl rfl (j_gfr rfl hx7 (j_iload_n rfl rfl (j_bal rfl rfl hx8 (j_aload rfl rfl (j_gfr rfl hx9 (j_iload rfl rfl (j_bal rfl rfl hx10 (g)))))))))) ?_
  refine J_ite (fun h11 => ?_) (fun h11 => ?_)
  · refine J_bind fun w12 hw12 => ?_
    refine J_cl fun x14 σ13 hσ13 => ?_
    refine q_J.step (fun g => j_icmp_f rfl (cc_ne_f h11) (j_aload_n rfl rfl (j_iload_n rfl rfl (j_aload rfl rfl (j_iload rfl rfl (j_v1 [.ref v2, .int v3, .ref v5, .int x5] [] rfl rfl rfl rfl rfl rfl hw12 (Or.inl rfl) (t_Pa_isFull (by omega) hσ13) (g))))))) ?_
    refine J_ite (fun h15 => ?_) (fun h15 => ?_)
    · exact J_some (fun h => j_if_f rfl (cc_ne_f h15) (j_iconst (-1 : Int32) rfl k32_m1 (j_iret rfl rfl h)))
    refine J_bind fun w16 hw16 => ?_
    refine J_cl fun x18 σ17 hσ17 => ?_
    refine J_bind fun w19 hw19 => ?_
    refine J_cl fun x21 σ20 hσ20 => ?_
    refine q_J.step (fun g => j_if_t rfl (cc_ne_t h15) (j_aload_n rfl rfl (j_iload_n rfl rfl (j_aload_n rfl rfl (j_iload_n rfl rfl (j_v1 [.ref v0, .int v1, .ref v2, .int v3] [] rfl rfl rfl rfl rfl rfl hw16 (Or.inl rfl) (t_Sf_firstBorn (by omega) hσ17) (j_aload_n rfl rfl (j_iload rfl rfl (j_aload rfl rfl (j_iload rfl rfl (j_v1 [.ref v0, .int v4, .ref v5, .int x5] [.int x18] rfl rfl rfl rfl rfl rfl hw19 (Or.inl rfl) (t_Sf_lastBorn (by omega) hσ20) (g)))))))))))) ?_
    refine J_ite (fun h22 => ?_) (fun h22 => ?_)
    · refine q_J.step (fun g => j_icmp_t rfl (cc_gt_t h22) (j_iconst (0 : Int32) rfl k32_0 (j_istore [some (.ref v0), some (.int v1), some (.ref v2), some (.int v3), some (.int v4), some (.ref v5), some (.int x5), some (.int (0 : Int32))] rfl rfl (Or.inr rfl) rfl (j_iload rfl rfl (g))))) ?_
      refine J_ite (fun h23 => ?_) (fun h23 => ?_)
      · exact J_some (fun h => j_if_t rfl (cc_eq_t h23) (j_iconst (-1 : Int32) rfl k32_m1 (j_iret rfl rfl h)))
      exact J_some (fun h => j_if_f rfl (cc_eq_f h23) (j_iload rfl rfl (j_goto rfl (j_iret rfl rfl h))))
    refine J_bind fun w24 hw24 => ?_
    refine J_cl fun x26 σ25 hσ25 => ?_
    refine J_bind fun w27 hw27 => ?_
    refine J_cl fun x29 σ28 hσ28 => ?_
    refine q_J.step (fun g => j_icmp_f rfl (cc_gt_f h22) (j_aload_n rfl rfl (j_iload rfl rfl (j_aload rfl rfl (j_iload rfl rfl (j_v1 [.ref v0, .int v4, .ref v5, .int x5] [] rfl rfl rfl rfl rfl rfl hw24 (Or.inl rfl) (t_Sf_firstBorn (by omega) hσ25) (j_aload_n rfl rfl (j_iload_n rfl rfl (j_aload_n rfl rfl (j_iload_n rfl rfl (j_v1 [.ref v0, .int v1, .ref v2, .int v3] [.int x26] rfl rfl rfl rfl rfl rfl hw27 (Or.inl rfl) (t_Sf_lastBorn (by omega) hσ28) (g)))))))))))) ?_
    refine J_sq (fun (t31 : Int32) (σ32 : q_H) => q_G (q_rf fo) d m_Sf_match o σ' 95 [none, none, none, none, none, none, some (.int x5), none] [.int t31] σ32) ?_ (fun t31 σ32 => ?_)
    · refine J_ite (fun h30 => ?_) (fun h30 => ?_)
      · exact J_some (fun h => j_icmp_t rfl (cc_gt_t h30) (j_iconst (0 : Int32) rfl k32_0 (j_weak (l := [none, none, none, none, none, none, some (.int x5), none]) (And.intro (Or.inl rfl) (And.intro (Or.inl rfl) (And.intro (Or.inl rfl) (And.intro (Or.inl rfl) (And.intro (Or.inl rfl) (And.intro (Or.inl rfl) (And.intro (Or.inr rfl) (And.intro (Or.inr rfl) True.intro)))))))) (h))))
      exact J_some (fun h => j_icmp_f rfl (cc_gt_f h30) (j_iconst (1 : Int32) rfl k32_1 (j_goto rfl (j_weak (l := [none, none, none, none, none, none, some (.int x5), none]) (And.intro (Or.inl rfl) (And.intro (Or.inl rfl) (And.intro (Or.inl rfl) (And.intro (Or.inl rfl) (And.intro (Or.inl rfl) (And.intro (Or.inl rfl) (And.intro (Or.inr rfl) (And.intro (Or.inr rfl) True.intro)))))))) (h)))))
    refine q_J.step (fun g => j_istore [none, none, none, none, none, none, some (.int x5), some (.int t31)] rfl rfl (Or.inr rfl) rfl (j_iload rfl rfl (g))) ?_
    refine J_ite (fun h33 => ?_) (fun h33 => ?_)
    · exact J_some (fun h => j_if_t rfl (cc_eq_t h33) (j_iconst (-1 : Int32) rfl k32_m1 (j_iret rfl rfl h)))
    exact J_some (fun h => j_if_f rfl (cc_eq_f h33) (j_iload rfl rfl (j_goto rfl (j_iret rfl rfl h))))
  exact J_some (fun h => j_icmp_t rfl (cc_ne_t h11) (j_iconst (-1 : Int32) rfl k32_m1 (j_iret rfl rfl h)))
theorem t_Sf_match {fo : Option Nat} {d : Nat} (hd : 3 ≤ d) {v0 : Nat} {v1 : Int32} {v2 : Nat} {v3 : Int32} {v4 : Int32} {v5 : Nat} {σ σ1 : q_H} {r : Int32} (h : f_Sf_match v0 v1 v2 v3 v4 v5 σ = some (r, σ1)) : q_Rel (q_rf fo) q_Ms d 88 [.ref v0, .int v1, .ref v2, .int v3, .int v4, .ref v5] σ (.inl (some (.int r))) σ1 := by
  obtain ⟨d, rfl⟩ : ∃ d1, d = d1 + 1 := ⟨d - 1, by omega⟩
  exact q_Rel.of rfl rfl (b_Sf_match hd _ _ _ _ _ _ σ _ _ h ⟨rfl, rfl⟩)

def f_Ho_begin_L9 (v0 : Nat) (v1 : Nat) (v2 : Int32) : Nat → Int32 → q_H → Option ((Unit) × q_H)
  | 0, _, _ => none
  | n + 1, v3, σ => if v3 < (4 : Int32) then ((q_gr (q_gf σ 3 v0 4)).bind fun x4 => (q_sa σ 20 x4 ((v2 * (4 : Int32)) + v3) (.int (0 : Int32))).bind fun σ5 => f_Ho_begin_L9 v0 v1 v2 n (v3 + (1 : Int32)) σ5) else (some ((), σ))
set_option maxRecDepth 100000 in
theorem l_Ho_begin_L9 {fo : Option Nat} {d : Nat} (hd : 3 ≤ d + 1) {o : q_O} {σ' : q_H} {E : (Unit) → q_H → Prop} (v0 : Nat) (v1 : Nat) (v2 : Int32) (hX : ∀ (t : Unit) σ1, E (t) σ1 → q_G (q_rf fo) d m_Ho_begin o σ' 31 [some (.ref v0), some (.ref v1), some (.int v2), none, none] [] σ1)  : ∀ (n : Nat) (v3 : Int32) (σ : q_H), q_J E (f_Ho_begin_L9 v0 v1 v2 n v3 σ) (q_G (q_rf fo) d m_Ho_begin o σ' 9 [some (.ref v0), some (.ref v1), some (.int v2), some (.int v3), none] [] σ)
  | 0, v3, σ => J_none
  | n + 1, v3, σ => by
    unfold f_Ho_begin_L9
    refine q_J.step (fun g => j_iload_n rfl rfl (j_iconst (4 : Int32) rfl k32_4 (g))) ?_
    refine J_ite (fun h3 => ?_) (fun h3 => ?_)
    · refine J_bind fun x4 hx4 => ?_
      refine J_bind fun σ5 hσ5 => ?_
      exact q_J.step (fun g => j_icmp_f rfl (cc_ge_f h3) (j_aload_n rfl rfl (j_gfr rfl hx4 (j_iload_n rfl rfl (j_iconst (4 : Int32) rfl k32_4 (j_imul rfl (j_iload_n rfl rfl (j_iadd rfl (j_iconst (0 : Int32) rfl k32_0 (j_ias rfl hσ5 (j_iinc [some (.ref v0), some (.ref v1), some (.int v2), some (.int (v3 + (1 : Int32))), none] (v3 + (1 : Int32)) rfl rfl (by rw [k32_1]) (Or.inr rfl) rfl (j_goto rfl (g))))))))))))) (l_Ho_begin_L9 hd v0 v1 v2 hX n (v3 + (1 : Int32)) σ5)
    exact J_some (fun h => j_icmp_t rfl (cc_ge_t h3) (j_weak (l := [some (.ref v0), some (.ref v1), some (.int v2), none, none]) (And.intro (Or.inr rfl) (And.intro (Or.inr rfl) (And.intro (Or.inr rfl) (And.intro (Or.inl rfl) (And.intro (Or.inr rfl) True.intro))))) (hX _ _ h)))

def f_Ho_begin_L40 (v0 : Nat) (v1 : Nat) (v2 : Int32) (v3 : Option Nat) : Nat → Int32 → q_H → Option ((Unit) × q_H)
  | 0, _, _ => none
  | n + 1, v4, σ => match v3 with | none => (some ((), σ)) | some a11 => ((q_gi (q_gf σ 8 a11 0)).bind fun x12 => if v4 < x12 then ((q_gr (q_gf σ 3 v0 2)).bind fun x14 => (q_ob σ 2 v1).bind fun w15 => q_sq (f_Sf_firstBorn v1 v2 a11 v4 σ) fun x17 σ16 => (q_sa σ16 20 x14 ((v2 * (12 : Int32)) + v4) (.int x17)).bind fun σ18 => (q_gr (q_gf σ18 3 v0 3)).bind fun x19 => (q_ob σ18 2 v1).bind fun w20 => q_sq (f_Sf_lastBorn v1 v2 a11 v4 σ18) fun x22 σ21 => (q_sa σ21 20 x19 ((v2 * (12 : Int32)) + v4) (.int x22)).bind fun σ23 => f_Ho_begin_L40 v0 v1 v2 v3 n (v4 + (1 : Int32)) σ23) else (some ((), σ)))
set_option maxRecDepth 100000 in
theorem l_Ho_begin_L40 {fo : Option Nat} {d : Nat} (hd : 3 ≤ d + 1) {o : q_O} {σ' : q_H} {E : (Unit) → q_H → Prop} (v0 : Nat) (v1 : Nat) (v2 : Int32) (v3 : Option Nat) (hX : ∀ (t : Unit) σ1, E (t) σ1 → q_G (q_rf fo) d m_Ho_begin o σ' 99 [none, none, none, none, none] [] σ1)  : ∀ (n : Nat) (v4 : Int32) (σ : q_H), q_J E (f_Ho_begin_L40 v0 v1 v2 v3 n v4 σ) (q_G (q_rf fo) d m_Ho_begin o σ' 40 [some (.ref v0), some (.ref v1), some (.int v2), some (q_rf v3), some (.int v4)] [] σ)
  | 0, v4, σ => J_none
  | n + 1, v4, σ => by
    unfold f_Ho_begin_L40
    refine q_J.step (fun g => j_aload_nO (x := v3) rfl rfl (g)) ?_
    cases ha11 : v3 with
    | none =>
      try subst ha11
      exact J_some (fun h => j_nul_t rfl (j_weak (l := [none, none, none, none, none]) (And.intro (Or.inl rfl) (And.intro (Or.inl rfl) (And.intro (Or.inl rfl) (And.intro (Or.inl rfl) (And.intro (Or.inl rfl) True.intro))))) (hX _ _ h)))
    | some a11 =>
      try subst ha11
      refine J_bind fun x12 hx12 => ?_
      refine q_J.step (fun g => j_nul_f rfl (j_iload rfl rfl (j_aload_n rfl rfl (j_gfi rfl hx12 (g))))) ?_
      refine J_ite (fun h13 => ?_) (fun h13 => ?_)
      · refine J_bind fun x14 hx14 => ?_
        refine J_bind fun w15 hw15 => ?_
        refine J_cl fun x17 σ16 hσ16 => ?_
        refine J_bind fun σ18 hσ18 => ?_
        refine J_bind fun x19 hx19 => ?_
        refine J_bind fun w20 hw20 => ?_
        refine J_cl fun x22 σ21 hσ21 => ?_
        refine J_bind fun σ23 hσ23 => ?_
        exact q_J.step (fun g => j_icmp_f rfl (cc_ge_f h13) (j_aload_n rfl rfl (j_gfr rfl hx14 (j_iload_n rfl rfl (j_bipush (12 : Int32) rfl kb_12 (j_imul rfl (j_iload rfl rfl (j_iadd rfl (j_aload_n rfl rfl (j_iload_n rfl rfl (j_aload_n rfl rfl (j_iload rfl rfl (j_v1 [.ref v1, .int v2, .ref a11, .int v4] [.int ((v2 * (12 : Int32)) + v4), .ref x14] rfl rfl rfl rfl rfl rfl hw15 (Or.inl rfl) (t_Sf_firstBorn (by omega) hσ16) (j_ias rfl hσ18 (j_aload_n rfl rfl (j_gfr rfl hx19 (j_iload_n rfl rfl (j_bipush (12 : Int32) rfl kb_12 (j_imul rfl (j_iload rfl rfl (j_iadd rfl (j_aload_n rfl rfl (j_iload_n rfl rfl (j_aload_n rfl rfl (j_iload rfl rfl (j_v1 [.ref v1, .int v2, .ref a11, .int v4] [.int ((v2 * (12 : Int32)) + v4), .ref x19] rfl rfl rfl rfl rfl rfl hw20 (Or.inl rfl) (t_Sf_lastBorn (by omega) hσ21) (j_ias rfl hσ23 (j_iinc [some (.ref v0), some (.ref v1), some (.int v2), some (.ref a11), some (.int (v4 + (1 : Int32)))] (v4 + (1 : Int32)) rfl rfl (by rw [k32_1]) (Or.inr rfl) rfl (j_goto rfl (g)))))))))))))))))))))))))))))) (l_Ho_begin_L40 hd v0 v1 v2 (some a11) hX n (v4 + (1 : Int32)) σ23)
      exact J_some (fun h => j_icmp_t rfl (cc_ge_t h13) (j_weak (l := [none, none, none, none, none]) (And.intro (Or.inl rfl) (And.intro (Or.inl rfl) (And.intro (Or.inl rfl) (And.intro (Or.inl rfl) (And.intro (Or.inl rfl) True.intro))))) (hX _ _ h)))

def f_Ho_begin (v0 : Nat) (v1 : Nat) (v2 : Int32) (σ : q_H) : Option ((Unit) × q_H) := (q_gr (q_gf σ 3 v0 1)).bind fun x1 => (q_sa σ 20 x1 v2 (.int v2)).bind fun σ2 => q_sq (f_Ho_begin_L9 v0 v1 v2 q_FU (0 : Int32) σ2) fun (t6 : Unit) σ7 => (q_ob σ7 2 v1).bind fun w8 => q_sq (f_Sf_pageOf v1 v2 σ7) fun x10 σ9 => q_sq (f_Ho_begin_L40 v0 v1 v2 x10 q_FU (0 : Int32) σ9) fun (t24 : Unit) σ25 => some ((), σ25)
set_option maxRecDepth 100000 in
theorem b_Ho_begin {fo : Option Nat} {d : Nat} (hd : 3 ≤ d + 1) {o : q_O} {σ' : q_H} (v0 : Nat) (v1 : Nat) (v2 : Int32) (σ : q_H) : q_J (fun (r : Unit) (σ1 : q_H) => o = .inl none ∧ σ' = σ1) (f_Ho_begin v0 v1 v2 σ) (q_G (q_rf fo) d m_Ho_begin o σ' 0 [some (.ref v0), some (.ref v1), some (.int v2), none, none] [] σ) := by
  unfold f_Ho_begin
  refine J_bind fun x1 hx1 => ?_
  refine J_bind fun σ2 hσ2 => ?_
  refine J_sq (fun (t6 : Unit) (σ7 : q_H) => q_G (q_rf fo) d m_Ho_begin o σ' 31 [some (.ref v0), some (.ref v1), some (.int v2), none, none] [] σ7) (q_J.step (fun g => j_aload_n rfl rfl (j_gfr rfl hx1 (j_iload_n rfl rfl (j_iload_n rfl rfl (j_ias rfl hσ2 (j_iconst (0 : Int32) rfl k32_0 (j_istore_n [some (.ref v0), some (.ref v1), some (.int v2), some (.int (0 : Int32)), none] rfl rfl (Or.inr rfl) rfl (g)))))))) (l_Ho_begin_L9 hd v0 v1 v2 (fun _ _ h => h) q_FU (0 : Int32) σ2)) (fun t6 σ7 => ?_)
  refine J_bind fun w8 hw8 => ?_
  refine J_cl fun x10 σ9 hσ9 => ?_
  refine J_sq (fun (t24 : Unit) (σ25 : q_H) => q_G (q_rf fo) d m_Ho_begin o σ' 99 [none, none, none, none, none] [] σ25) (q_J.step (fun g => j_aload_n rfl rfl (j_iload_n rfl rfl (j_v1 [.ref v1, .int v2] [] rfl rfl rfl rfl rfl rfl hw8 (Or.inl rfl) (t_Sf_pageOf (by omega) hσ9) (j_astore_nO (x := x10) [some (.ref v0), some (.ref v1), some (.int v2), some (q_rf x10), none] rfl rfl (Or.inr rfl) rfl (j_iconst (0 : Int32) rfl k32_0 (j_istore [some (.ref v0), some (.ref v1), some (.int v2), some (q_rf x10), some (.int (0 : Int32))] rfl rfl (Or.inr (q_rf_cat _)) rfl (g))))))) (l_Ho_begin_L40 hd v0 v1 v2 x10 (fun _ _ h => h) q_FU (0 : Int32) σ9)) (fun t24 σ25 => ?_)
  exact J_some (fun h => j_vret rfl rfl h)
theorem t_Ho_begin {fo : Option Nat} {d : Nat} (hd : 3 ≤ d) {v0 : Nat} {v1 : Nat} {v2 : Int32} {σ σ1 : q_H} {r : Unit} (h : f_Ho_begin v0 v1 v2 σ = some (r, σ1)) : q_Rel (q_rf fo) q_Ms d 98 [.ref v0, .ref v1, .int v2] σ (.inl none) σ1 := by
  obtain ⟨d, rfl⟩ : ∃ d1, d = d1 + 1 := ⟨d - 1, by omega⟩
  exact q_Rel.of rfl rfl (b_Ho_begin hd _ _ _ σ _ _ h ⟨rfl, rfl⟩)

def f_Ho_countOf_L4 (v0 : Nat) (v1 : Nat) : Nat → Int32 → Int32 → q_H → Option ((Int32) × q_H)
  | 0, _, _, _ => none
  | n + 1, v2, v3, σ => if v3 < (24 : Int32) then ((q_ob σ 2 v1).bind fun w2 => q_sq (f_Sf_pageOf v1 v3 σ) fun x4 σ3 => match x4 with | none => (f_Ho_countOf_L4 v0 v1 n (v2 + (0 : Int32)) (v3 + (1 : Int32)) σ3) | some a5 => ((q_gr (q_gf σ3 3 v0 1)).bind fun x6 => (q_gi (q_ga σ3 20 x6 v3)).bind fun x7 => if x7 = v3 then (f_Ho_countOf_L4 v0 v1 n (v2 + (1 : Int32)) (v3 + (1 : Int32)) σ3) else (f_Ho_countOf_L4 v0 v1 n (v2 + (0 : Int32)) (v3 + (1 : Int32)) σ3))) else (some (v2, σ))
set_option maxRecDepth 100000 in
theorem l_Ho_countOf_L4 {fo : Option Nat} {d : Nat} (hd : 3 ≤ d + 1) {o : q_O} {σ' : q_H} {E : (Int32) → q_H → Prop} (v0 : Nat) (v1 : Nat) (hX : ∀ (t : Int32) σ1, E (t) σ1 → q_G (q_rf fo) d m_Ho_countOf o σ' 42 [none, none, some (.int t), none] [] σ1)  : ∀ (n : Nat) (v2 : Int32) (v3 : Int32) (σ : q_H), q_J E (f_Ho_countOf_L4 v0 v1 n v2 v3 σ) (q_G (q_rf fo) d m_Ho_countOf o σ' 4 [some (.ref v0), some (.ref v1), some (.int v2), some (.int v3)] [] σ)
  | 0, v2, v3, σ => J_none
  | n + 1, v2, v3, σ => by
    unfold f_Ho_countOf_L4
    refine q_J.step (fun g => j_iload_n rfl rfl (j_bipush (24 : Int32) rfl kb_24 (g))) ?_
    refine J_ite (fun h1 => ?_) (fun h1 => ?_)
    · refine J_bind fun w2 hw2 => ?_
      refine J_cl fun x4 σ3 hσ3 => ?_
      refine q_J.step (fun g => j_icmp_f rfl (cc_ge_f h1) (j_iload_n rfl rfl (j_aload_n rfl rfl (j_iload_n rfl rfl (j_v1 [.ref v1, .int v3] [.int v2] rfl rfl rfl rfl rfl rfl hw2 (Or.inl rfl) (t_Sf_pageOf (by omega) hσ3) (g)))))) ?_
      cases ha5 : x4 with
      | none =>
        try subst ha5
        exact q_J.step (fun g => j_nul_t rfl (j_iconst (0 : Int32) rfl k32_0 (j_iadd rfl (j_istore_n [some (.ref v0), some (.ref v1), some (.int (v2 + (0 : Int32))), some (.int v3)] rfl rfl (Or.inr rfl) rfl (j_iinc [some (.ref v0), some (.ref v1), some (.int (v2 + (0 : Int32))), some (.int (v3 + (1 : Int32)))] (v3 + (1 : Int32)) rfl rfl (by rw [k32_1]) (Or.inr rfl) rfl (j_goto rfl (g))))))) (l_Ho_countOf_L4 hd v0 v1 hX n (v2 + (0 : Int32)) (v3 + (1 : Int32)) σ3)
      | some a5 =>
        try subst ha5
        refine J_bind fun x6 hx6 => ?_
        refine J_bind fun x7 hx7 => ?_
        refine q_J.step (fun g => j_nul_f rfl (j_aload_n rfl rfl (j_gfr rfl hx6 (j_iload_n rfl rfl (j_ial rfl hx7 (j_iload_n rfl rfl (g))))))) ?_
        refine J_ite (fun h8 => ?_) (fun h8 => ?_)
        · exact q_J.step (fun g => j_icmp_f rfl (cc_ne_f h8) (j_iconst (1 : Int32) rfl k32_1 (j_goto rfl (j_iadd rfl (j_istore_n [some (.ref v0), some (.ref v1), some (.int (v2 + (1 : Int32))), some (.int v3)] rfl rfl (Or.inr rfl) rfl (j_iinc [some (.ref v0), some (.ref v1), some (.int (v2 + (1 : Int32))), some (.int (v3 + (1 : Int32)))] (v3 + (1 : Int32)) rfl rfl (by rw [k32_1]) (Or.inr rfl) rfl (j_goto rfl (g)))))))) (l_Ho_countOf_L4 hd v0 v1 hX n (v2 + (1 : Int32)) (v3 + (1 : Int32)) σ3)
        exact q_J.step (fun g => j_icmp_t rfl (cc_ne_t h8) (j_iconst (0 : Int32) rfl k32_0 (j_iadd rfl (j_istore_n [some (.ref v0), some (.ref v1), some (.int (v2 + (0 : Int32))), some (.int v3)] rfl rfl (Or.inr rfl) rfl (j_iinc [some (.ref v0), some (.ref v1), some (.int (v2 + (0 : Int32))), some (.int (v3 + (1 : Int32)))] (v3 + (1 : Int32)) rfl rfl (by rw [k32_1]) (Or.inr rfl) rfl (j_goto rfl (g))))))) (l_Ho_countOf_L4 hd v0 v1 hX n (v2 + (0 : Int32)) (v3 + (1 : Int32)) σ3)
    exact J_some (fun h => j_icmp_t rfl (cc_ge_t h1) (j_weak (l := [none, none, some (.int v2), none]) (And.intro (Or.inl rfl) (And.intro (Or.inl rfl) (And.intro (Or.inr rfl) (And.intro (Or.inl rfl) True.intro)))) (hX _ _ h)))

def f_Ho_countOf (v0 : Nat) (v1 : Nat) (σ : q_H) : Option ((Int32) × q_H) := q_sq (f_Ho_countOf_L4 v0 v1 q_FU (0 : Int32) (0 : Int32) σ) fun (t9 : Int32) σ10 => some (t9, σ10)
set_option maxRecDepth 100000 in
theorem b_Ho_countOf {fo : Option Nat} {d : Nat} (hd : 3 ≤ d + 1) {o : q_O} {σ' : q_H} (v0 : Nat) (v1 : Nat) (σ : q_H) : q_J (fun (r : Int32) (σ1 : q_H) => o = .inl (some (.int r)) ∧ σ' = σ1) (f_Ho_countOf v0 v1 σ) (q_G (q_rf fo) d m_Ho_countOf o σ' 0 [some (.ref v0), some (.ref v1), none, none] [] σ) := by
  unfold f_Ho_countOf
  refine J_sq (fun (t9 : Int32) (σ10 : q_H) => q_G (q_rf fo) d m_Ho_countOf o σ' 42 [none, none, some (.int t9), none] [] σ10) (q_J.step (fun g => j_iconst (0 : Int32) rfl k32_0 (j_istore_n [some (.ref v0), some (.ref v1), some (.int (0 : Int32)), none] rfl rfl (Or.inr rfl) rfl (j_iconst (0 : Int32) rfl k32_0 (j_istore_n [some (.ref v0), some (.ref v1), some (.int (0 : Int32)), some (.int (0 : Int32))] rfl rfl (Or.inr rfl) rfl (g))))) (l_Ho_countOf_L4 hd v0 v1 (fun _ _ h => h) q_FU (0 : Int32) (0 : Int32) σ)) (fun t9 σ10 => ?_)
  exact J_some (fun h => j_iload_n rfl rfl (j_iret rfl rfl h))
theorem t_Ho_countOf {fo : Option Nat} {d : Nat} (hd : 3 ≤ d) {v0 : Nat} {v1 : Nat} {σ σ1 : q_H} {r : Int32} (h : f_Ho_countOf v0 v1 σ = some (r, σ1)) : q_Rel (q_rf fo) q_Ms d 104 [.ref v0, .ref v1] σ (.inl (some (.int r))) σ1 := by
  obtain ⟨d, rfl⟩ : ∃ d1, d = d1 + 1 := ⟨d - 1, by omega⟩
  exact q_Rel.of rfl rfl (b_Ho_countOf hd _ _ σ _ _ h ⟨rfl, rfl⟩)

def f_Rs_may (v0 : Nat) (v1 : Int32) (v2 : Int32) (σ : q_H) : Option ((Int32) × q_H) := (q_gr (q_gf σ 0 v0 3)).bind fun x1 => (q_ob σ 2 x1).bind fun w2 => q_sq (f_Sf_isTold x1 v1 σ) fun x4 σ3 => if x4 = (0 : Int32) then (some ((0 : Int32), σ3)) else (q_sq (f_Rs_isFrom (0 : Int32) v2 (20 : Int32) σ3) fun x7 σ6 => if x7 = (0 : Int32) then (some ((0 : Int32), σ6)) else ((q_gr (q_gf σ6 0 v0 3)).bind fun x9 => (q_gr (q_gf σ6 2 x9 3)).bind fun x10 => (q_sa σ6 20 x10 v1 (.int v2)).bind fun σ11 => some ((1 : Int32), σ11)))
set_option maxRecDepth 100000 in
theorem b_Rs_may {fo : Option Nat} {d : Nat} (hd : 3 ≤ d + 1) {o : q_O} {σ' : q_H} (v0 : Nat) (v1 : Int32) (v2 : Int32) (σ : q_H) : q_J (fun (r : Int32) (σ1 : q_H) => o = .inl (some (.int r)) ∧ σ' = σ1) (f_Rs_may v0 v1 v2 σ) (q_G (q_rf fo) d m_Rs_may o σ' 0 [some (.ref v0), some (.int v1), some (.int v2)] [] σ) := by
  unfold f_Rs_may
  refine J_bind fun x1 hx1 => ?_
  refine J_bind fun w2 hw2 => ?_
  refine J_cl fun x4 σ3 hσ3 => ?_
  refine q_J.step (fun g => j_aload_n rfl rfl (j_gfr rfl hx1 (j_iload_n rfl rfl (j_v1 [.ref x1, .int v1] [] rfl rfl rfl rfl rfl rfl hw2 (Or.inl rfl) (t_Sf_isTold (by omega) hσ3) (g))))) ?_
  refine J_ite (fun h5 => ?_) (fun h5 => ?_)
  · exact J_some (fun h => j_if_t rfl (cc_eq_t h5) (j_iconst (0 : Int32) rfl k32_0 (j_iret rfl (q_zr (Or.inl rfl)) h)))
  refine J_cl fun x7 σ6 hσ6 => ?_
  refine q_J.step (fun g => j_if_f rfl (cc_eq_f h5) (j_iconst (0 : Int32) rfl k32_0 (j_iload_n rfl rfl (j_bipush (20 : Int32) rfl kb_20 (j_s1 [.int (0 : Int32), .int v2, .int (20 : Int32)] [] rfl rfl rfl rfl rfl (t_Rs_isFrom (by omega) hσ6) (g)))))) ?_
  refine J_ite (fun h8 => ?_) (fun h8 => ?_)
  · exact J_some (fun h => j_if_f rfl (cc_ne_f h8) (j_iconst (0 : Int32) rfl k32_0 (j_iret rfl (q_zr (Or.inl rfl)) h)))
  refine J_bind fun x9 hx9 => ?_
  refine J_bind fun x10 hx10 => ?_
  refine J_bind fun σ11 hσ11 => ?_
  exact J_some (fun h => j_if_t rfl (cc_ne_t h8) (j_aload_n rfl rfl (j_gfr rfl hx9 (j_gfr rfl hx10 (j_iload_n rfl rfl (j_iload_n rfl rfl (j_ias rfl hσ11 (j_iconst (1 : Int32) rfl k32_1 (j_iret rfl (q_zr (Or.inr rfl)) h)))))))))
theorem t_Rs_may {fo : Option Nat} {d : Nat} (hd : 3 ≤ d) {v0 : Nat} {v1 : Int32} {v2 : Int32} {σ σ1 : q_H} {r : Int32} (h : f_Rs_may v0 v1 v2 σ = some (r, σ1)) : q_Rel (q_rf fo) q_Ms d 109 [.ref v0, .int v1, .int v2] σ (.inl (some (.int r))) σ1 := by
  obtain ⟨d, rfl⟩ : ∃ d1, d = d1 + 1 := ⟨d - 1, by omega⟩
  exact q_Rel.of rfl rfl (b_Rs_may hd _ _ _ σ _ _ h ⟨rfl, rfl⟩)

def f_Rs_feed (v0 : Nat) (v1 : Int64) (v3 : Int64) (v5 : Int64) (σ : q_H) : Option ((Int32) × q_H) := (q_gr (q_gf σ 0 v0 0)).bind fun x1 => (q_ob σ 1 x1).bind fun w2 => q_sq (f_Ta_put x1 v1 σ) fun (_ : Unit) σ3 => (q_gr (q_gf σ3 0 v0 0)).bind fun x5 => (q_ob σ3 1 x5).bind fun w6 => q_sq (f_Ta_put x5 v3 σ3) fun (_ : Unit) σ7 => (q_gr (q_gf σ7 0 v0 0)).bind fun x9 => (q_ob σ7 1 x9).bind fun w10 => q_sq (f_Ta_put x9 v5 σ7) fun (_ : Unit) σ11 => (q_gr (q_gf σ11 0 v0 0)).bind fun x13 => (q_gi (q_gf σ11 1 x13 1)).bind fun x14 => some (x14, σ11)
set_option maxRecDepth 100000 in
theorem b_Rs_feed {fo : Option Nat} {d : Nat} (hd : 3 ≤ d + 1) {o : q_O} {σ' : q_H} (v0 : Nat) (v1 : Int64) (v3 : Int64) (v5 : Int64) (σ : q_H) : q_J (fun (r : Int32) (σ1 : q_H) => o = .inl (some (.int r)) ∧ σ' = σ1) (f_Rs_feed v0 v1 v3 v5 σ) (q_G (q_rf fo) d m_Rs_feed o σ' 0 [some (.ref v0), some (.long v1), none, some (.long v3), none, some (.long v5), none] [] σ) := by
  unfold f_Rs_feed
  refine J_bind fun x1 hx1 => ?_
  refine J_bind fun w2 hw2 => ?_
  refine J_cl fun _ σ3 hσ3 => ?_
  refine J_bind fun x5 hx5 => ?_
  refine J_bind fun w6 hw6 => ?_
  refine J_cl fun _ σ7 hσ7 => ?_
  refine J_bind fun x9 hx9 => ?_
  refine J_bind fun w10 hw10 => ?_
  refine J_cl fun _ σ11 hσ11 => ?_
  refine J_bind fun x13 hx13 => ?_
  refine J_bind fun x14 hx14 => ?_
  exact J_some (fun h => j_aload_n rfl rfl (j_gfr rfl hx1 (j_lload_n rfl rfl (j_v0 [.ref x1, .long v1] [] rfl rfl rfl rfl rfl rfl hw2 (Or.inl rfl) (t_Ta_put (by omega) hσ3) (j_aload_n rfl rfl (j_gfr rfl hx5 (j_lload_n rfl rfl (j_v0 [.ref x5, .long v3] [] rfl rfl rfl rfl rfl rfl hw6 (Or.inl rfl) (t_Ta_put (by omega) hσ7) (j_aload_n rfl rfl (j_gfr rfl hx9 (j_lload rfl rfl (j_v0 [.ref x9, .long v5] [] rfl rfl rfl rfl rfl rfl hw10 (Or.inl rfl) (t_Ta_put (by omega) hσ11) (j_aload_n rfl rfl (j_gfr rfl hx13 (j_gfi rfl hx14 (j_iret rfl rfl h))))))))))))))))
theorem t_Rs_feed {fo : Option Nat} {d : Nat} (hd : 3 ≤ d) {v0 : Nat} {v1 : Int64} {v3 : Int64} {v5 : Int64} {σ σ1 : q_H} {r : Int32} (h : f_Rs_feed v0 v1 v3 v5 σ = some (r, σ1)) : q_Rel (q_rf fo) q_Ms d 110 [.ref v0, .long v1, .long v3, .long v5] σ (.inl (some (.int r))) σ1 := by
  obtain ⟨d, rfl⟩ : ∃ d1, d = d1 + 1 := ⟨d - 1, by omega⟩
  exact q_Rel.of rfl rfl (b_Rs_feed hd _ _ _ _ σ _ _ h ⟨rfl, rfl⟩)

def f_Rs_forget (v0 : Nat) (v1 : Int32) (σ : q_H) : Option ((Int32) × q_H) := (q_gr (q_gf σ 0 v0 3)).bind fun x1 => (q_ob σ 2 x1).bind fun w2 => q_sq (f_Sf_pageOf x1 v1 σ) fun x4 σ3 => match x4 with | none => (some ((0 : Int32), σ3)) | some a5 => ((q_gr (q_gf σ3 0 v0 3)).bind fun x6 => (q_gr (q_gf σ3 2 x6 4)).bind fun x7 => (q_sa σ3 25 x7 v1 (.null)).bind fun σ8 => (q_gr (q_gf σ8 0 v0 6)).bind fun x9 => (q_sf σ8 3 x9 0 (.int (1 : Int32))).bind fun σ10 => some ((1 : Int32), σ10))
set_option maxRecDepth 100000 in
theorem b_Rs_forget {fo : Option Nat} {d : Nat} (hd : 3 ≤ d + 1) {o : q_O} {σ' : q_H} (v0 : Nat) (v1 : Int32) (σ : q_H) : q_J (fun (r : Int32) (σ1 : q_H) => o = .inl (some (.int r)) ∧ σ' = σ1) (f_Rs_forget v0 v1 σ) (q_G (q_rf fo) d m_Rs_forget o σ' 0 [some (.ref v0), some (.int v1)] [] σ) := by
  unfold f_Rs_forget
  refine J_bind fun x1 hx1 => ?_
  refine J_bind fun w2 hw2 => ?_
  refine J_cl fun x4 σ3 hσ3 => ?_
  refine q_J.step (fun g => j_aload_n rfl rfl (j_gfr rfl hx1 (j_iload_n rfl rfl (j_v1 [.ref x1, .int v1] [] rfl rfl rfl rfl rfl rfl hw2 (Or.inl rfl) (t_Sf_pageOf (by omega) hσ3) (g))))) ?_
  cases ha5 : x4 with
  | none =>
    try subst ha5
    exact J_some (fun h => j_non_f rfl (j_iconst (0 : Int32) rfl k32_0 (j_iret rfl (q_zr (Or.inl rfl)) h)))
  | some a5 =>
    try subst ha5
    refine J_bind fun x6 hx6 => ?_
    refine J_bind fun x7 hx7 => ?_
    refine J_bind fun σ8 hσ8 => ?_
    refine J_bind fun x9 hx9 => ?_
    refine J_bind fun σ10 hσ10 => ?_
    exact J_some (fun h => j_non_t rfl (j_aload_n rfl rfl (j_gfr rfl hx6 (j_gfr rfl hx7 (j_iload_n rfl rfl (j_null rfl (j_aas rfl (Or.inl ⟨rfl, rfl⟩) (Or.inl rfl) hσ8 (j_aload_n rfl rfl (j_gfr rfl hx9 (j_iconst (1 : Int32) rfl k32_1 (j_putf rfl rfl (by decide) rfl hσ10 (j_iconst (1 : Int32) rfl k32_1 (j_iret rfl (q_zr (Or.inr rfl)) h)))))))))))))
theorem t_Rs_forget {fo : Option Nat} {d : Nat} (hd : 3 ≤ d) {v0 : Nat} {v1 : Int32} {σ σ1 : q_H} {r : Int32} (h : f_Rs_forget v0 v1 σ = some (r, σ1)) : q_Rel (q_rf fo) q_Ms d 112 [.ref v0, .int v1] σ (.inl (some (.int r))) σ1 := by
  obtain ⟨d, rfl⟩ : ∃ d1, d = d1 + 1 := ⟨d - 1, by omega⟩
  exact q_Rel.of rfl rfl (b_Rs_forget hd _ _ σ _ _ h ⟨rfl, rfl⟩)

def f_Rs_lines (v0 : Nat) (v1 : Int32) (σ : q_H) : Option ((Int32) × q_H) := (q_gr (q_gf σ 0 v0 3)).bind fun x1 => (q_ob σ 2 x1).bind fun w2 => q_sq (f_Sf_pageOf x1 v1 σ) fun x4 σ3 => match x4 with | none => (some ((-1 : Int32), σ3)) | some a5 => ((q_gi (q_gf σ3 8 a5 0)).bind fun x6 => some (x6, σ3))
set_option maxRecDepth 100000 in
theorem b_Rs_lines {fo : Option Nat} {d : Nat} (hd : 3 ≤ d + 1) {o : q_O} {σ' : q_H} (v0 : Nat) (v1 : Int32) (σ : q_H) : q_J (fun (r : Int32) (σ1 : q_H) => o = .inl (some (.int r)) ∧ σ' = σ1) (f_Rs_lines v0 v1 σ) (q_G (q_rf fo) d m_Rs_lines o σ' 0 [some (.ref v0), some (.int v1), none] [] σ) := by
  unfold f_Rs_lines
  refine J_bind fun x1 hx1 => ?_
  refine J_bind fun w2 hw2 => ?_
  refine J_cl fun x4 σ3 hσ3 => ?_
  refine q_J.step (fun g => j_aload_n rfl rfl (j_gfr rfl hx1 (j_iload_n rfl rfl (j_v1 [.ref x1, .int v1] [] rfl rfl rfl rfl rfl rfl hw2 (Or.inl rfl) (t_Sf_pageOf (by omega) hσ3) (j_astore_nO (x := x4) [some (.ref v0), some (.int v1), some (q_rf x4)] rfl rfl (Or.inr rfl) rfl (j_aload_nO (x := x4) rfl rfl (g))))))) ?_
  cases ha5 : x4 with
  | none =>
    try subst ha5
    exact J_some (fun h => j_non_f rfl (j_iconst (-1 : Int32) rfl k32_m1 (j_goto rfl (j_iret rfl rfl h))))
  | some a5 =>
    try subst ha5
    refine J_bind fun x6 hx6 => ?_
    exact J_some (fun h => j_non_t rfl (j_aload_n rfl rfl (j_gfi rfl hx6 (j_iret rfl rfl h))))
theorem t_Rs_lines {fo : Option Nat} {d : Nat} (hd : 3 ≤ d) {v0 : Nat} {v1 : Int32} {σ σ1 : q_H} {r : Int32} (h : f_Rs_lines v0 v1 σ = some (r, σ1)) : q_Rel (q_rf fo) q_Ms d 113 [.ref v0, .int v1] σ (.inl (some (.int r))) σ1 := by
  obtain ⟨d, rfl⟩ : ∃ d1, d = d1 + 1 := ⟨d - 1, by omega⟩
  exact q_Rel.of rfl rfl (b_Rs_lines hd _ _ σ _ _ h ⟨rfl, rfl⟩)

def f_Rs_kin (v0 : Nat) (v1 : Int32) (v2 : Int32) (v3 : Int32) (σ : q_H) : Option ((Int32) × q_H) := (q_gr (q_gf σ 0 v0 3)).bind fun x1 => (q_ob σ 2 x1).bind fun w2 => q_sq (f_Sf_pageOf x1 v1 σ) fun x4 σ3 => match x4 with | none => (some ((-1 : Int32), σ3)) | some a5 => ((q_ob σ3 8 a5).bind fun w6 => q_sq (f_Pa_has a5 v2 σ3) fun x8 σ7 => if x8 = (0 : Int32) then (some ((-1 : Int32), σ7)) else ((q_ob σ7 8 a5).bind fun w10 => q_sq (f_Pa_has a5 v3 σ7) fun x12 σ11 => if x12 = (0 : Int32) then (some ((-1 : Int32), σ11)) else (if v2 = v3 then (some ((-1 : Int32), σ11)) else ((q_ob σ11 8 a5).bind fun w15 => q_sq (f_Pa_isFull a5 v2 a5 v3 σ11) fun x17 σ16 => if x17 = (0 : Int32) then ((q_ob σ16 8 a5).bind fun w19 => q_sq (f_Pa_isHalf a5 v2 v3 σ16) fun x21 σ20 => if x21 = (0 : Int32) then (some ((0 : Int32), σ20)) else (some ((1 : Int32), σ20))) else (some ((2 : Int32), σ16))))))
set_option maxRecDepth 100000 in
theorem b_Rs_kin {fo : Option Nat} {d : Nat} (hd : 3 ≤ d + 1) {o : q_O} {σ' : q_H} (v0 : Nat) (v1 : Int32) (v2 : Int32) (v3 : Int32) (σ : q_H) : q_J (fun (r : Int32) (σ1 : q_H) => o = .inl (some (.int r)) ∧ σ' = σ1) (f_Rs_kin v0 v1 v2 v3 σ) (q_G (q_rf fo) d m_Rs_kin o σ' 0 [some (.ref v0), some (.int v1), some (.int v2), some (.int v3), none] [] σ) := by
  unfold f_Rs_kin
  refine J_bind fun x1 hx1 => ?_
  refine J_bind fun w2 hw2 => ?_
  refine J_cl fun x4 σ3 hσ3 => ?_
  refine q_J.step (fun g => j_aload_n rfl rfl (j_gfr rfl hx1 (j_iload_n rfl rfl (j_v1 [.ref x1, .int v1] [] rfl rfl rfl rfl rfl rfl hw2 (Or.inl rfl) (t_Sf_pageOf (by omega) hσ3) (j_astoreO (x := x4) [some (.ref v0), some (.int v1), some (.int v2), some (.int v3), some (q_rf x4)] rfl rfl (Or.inr rfl) rfl (j_aloadO (x := x4) rfl rfl (g))))))) ?_
  cases ha5 : x4 with
  | none =>
    try subst ha5
    exact J_some (fun h => j_nul_t rfl (j_iconst (-1 : Int32) rfl k32_m1 (j_iret rfl rfl h)))
  | some a5 =>
    try subst ha5
    refine J_bind fun w6 hw6 => ?_
    refine J_cl fun x8 σ7 hσ7 => ?_
    refine q_J.step (fun g => j_nul_f rfl (j_aload rfl rfl (j_iload_n rfl rfl (j_v1 [.ref a5, .int v2] [] rfl rfl rfl rfl rfl rfl hw6 (Or.inl rfl) (t_Pa_has (by omega) hσ7) (g))))) ?_
    refine J_ite (fun h9 => ?_) (fun h9 => ?_)
    · exact J_some (fun h => j_if_t rfl (cc_eq_t h9) (j_iconst (-1 : Int32) rfl k32_m1 (j_iret rfl rfl h)))
    refine J_bind fun w10 hw10 => ?_
    refine J_cl fun x12 σ11 hσ11 => ?_
    refine q_J.step (fun g => j_if_f rfl (cc_eq_f h9) (j_aload rfl rfl (j_iload_n rfl rfl (j_v1 [.ref a5, .int v3] [] rfl rfl rfl rfl rfl rfl hw10 (Or.inl rfl) (t_Pa_has (by omega) hσ11) (g))))) ?_
    refine J_ite (fun h13 => ?_) (fun h13 => ?_)
    · exact J_some (fun h => j_if_t rfl (cc_eq_t h13) (j_iconst (-1 : Int32) rfl k32_m1 (j_iret rfl rfl h)))
    refine q_J.step (fun g => j_if_f rfl (cc_eq_f h13) (j_iload_n rfl rfl (j_iload_n rfl rfl (g)))) ?_
    refine J_ite (fun h14 => ?_) (fun h14 => ?_)
    · exact J_some (fun h => j_icmp_f rfl (cc_ne_f h14) (j_iconst (-1 : Int32) rfl k32_m1 (j_iret rfl rfl h)))
    refine J_bind fun w15 hw15 => ?_
    refine J_cl fun x17 σ16 hσ16 => ?_
    refine q_J.step (fun g => j_icmp_t rfl (cc_ne_t h14) (j_aload rfl rfl (j_iload_n rfl rfl (j_aload rfl rfl (j_iload_n rfl rfl (j_v1 [.ref a5, .int v2, .ref a5, .int v3] [] rfl rfl rfl rfl rfl rfl hw15 (Or.inl rfl) (t_Pa_isFull (by omega) hσ16) (g))))))) ?_
    refine J_ite (fun h18 => ?_) (fun h18 => ?_)
    · refine J_bind fun w19 hw19 => ?_
      refine J_cl fun x21 σ20 hσ20 => ?_
      refine q_J.step (fun g => j_if_t rfl (cc_eq_t h18) (j_aload rfl rfl (j_iload_n rfl rfl (j_iload_n rfl rfl (j_v1 [.ref a5, .int v2, .int v3] [] rfl rfl rfl rfl rfl rfl hw19 (Or.inl rfl) (t_Pa_isHalf (by omega) hσ20) (g)))))) ?_
      refine J_ite (fun h22 => ?_) (fun h22 => ?_)
      · exact J_some (fun h => j_if_t rfl (cc_eq_t h22) (j_iconst (0 : Int32) rfl k32_0 (j_iret rfl rfl h)))
      exact J_some (fun h => j_if_f rfl (cc_eq_f h22) (j_iconst (1 : Int32) rfl k32_1 (j_goto rfl (j_iret rfl rfl h))))
    exact J_some (fun h => j_if_f rfl (cc_eq_f h18) (j_iconst (2 : Int32) rfl k32_2 (j_goto rfl (j_iret rfl rfl h))))
theorem t_Rs_kin {fo : Option Nat} {d : Nat} (hd : 3 ≤ d) {v0 : Nat} {v1 : Int32} {v2 : Int32} {v3 : Int32} {σ σ1 : q_H} {r : Int32} (h : f_Rs_kin v0 v1 v2 v3 σ = some (r, σ1)) : q_Rel (q_rf fo) q_Ms d 114 [.ref v0, .int v1, .int v2, .int v3] σ (.inl (some (.int r))) σ1 := by
  obtain ⟨d, rfl⟩ : ∃ d1, d = d1 + 1 := ⟨d - 1, by omega⟩
  exact q_Rel.of rfl rfl (b_Rs_kin hd _ _ _ _ σ _ _ h ⟨rfl, rfl⟩)

def f_Rs_pageOfWife (v0 : Nat) (v1 : Int32) (v2 : Int32) (σ : q_H) : Option ((Option Nat) × q_H) := (q_gr (q_gf σ 0 v0 3)).bind fun x1 => (q_ob σ 2 x1).bind fun w2 => q_sq (f_Sf_pageOf x1 v1 σ) fun x4 σ3 => match x4 with | none => (some (none, σ3)) | some a5 => ((q_ob σ3 8 a5).bind fun w6 => q_sq (f_Pa_has a5 v2 σ3) fun x8 σ7 => if x8 = (0 : Int32) then (some (none, σ7)) else ((q_gr (q_gf σ7 8 a5 7)).bind fun x10 => (q_gi (q_ga σ7 20 x10 v2)).bind fun x11 => if x11 = (-1 : Int32) then (some (none, σ7)) else (some (some a5, σ7))))
set_option maxRecDepth 100000 in
theorem b_Rs_pageOfWife {fo : Option Nat} {d : Nat} (hd : 3 ≤ d + 1) {o : q_O} {σ' : q_H} (v0 : Nat) (v1 : Int32) (v2 : Int32) (σ : q_H) : q_J (fun (r : Option Nat) (σ1 : q_H) => o = .inl (some (q_rf r)) ∧ σ' = σ1) (f_Rs_pageOfWife v0 v1 v2 σ) (q_G (q_rf fo) d m_Rs_pageOfWife o σ' 0 [some (.ref v0), some (.int v1), some (.int v2), none] [] σ) := by
  unfold f_Rs_pageOfWife
  refine J_bind fun x1 hx1 => ?_
  refine J_bind fun w2 hw2 => ?_
  refine J_cl fun x4 σ3 hσ3 => ?_
  refine q_J.step (fun g => j_aload_n rfl rfl (j_gfr rfl hx1 (j_iload_n rfl rfl (j_v1 [.ref x1, .int v1] [] rfl rfl rfl rfl rfl rfl hw2 (Or.inl rfl) (t_Sf_pageOf (by omega) hσ3) (j_astore_nO (x := x4) [some (.ref v0), some (.int v1), some (.int v2), some (q_rf x4)] rfl rfl (Or.inr rfl) rfl (j_aload_nO (x := x4) rfl rfl (g))))))) ?_
  cases ha5 : x4 with
  | none =>
    try subst ha5
    exact J_some (fun h => j_nul_t rfl (j_null rfl (j_aret (x := none) rfl (Or.inl ⟨_, rfl⟩) h)))
  | some a5 =>
    try subst ha5
    refine J_bind fun w6 hw6 => ?_
    refine J_cl fun x8 σ7 hσ7 => ?_
    refine q_J.step (fun g => j_nul_f rfl (j_aload_n rfl rfl (j_iload_n rfl rfl (j_v1 [.ref a5, .int v2] [] rfl rfl rfl rfl rfl rfl hw6 (Or.inl rfl) (t_Pa_has (by omega) hσ7) (g))))) ?_
    refine J_ite (fun h9 => ?_) (fun h9 => ?_)
    · exact J_some (fun h => j_if_t rfl (cc_eq_t h9) (j_null rfl (j_aret (x := none) rfl (Or.inl ⟨_, rfl⟩) h)))
    refine J_bind fun x10 hx10 => ?_
    refine J_bind fun x11 hx11 => ?_
    refine q_J.step (fun g => j_if_f rfl (cc_eq_f h9) (j_aload_n rfl rfl (j_gfr rfl hx10 (j_iload_n rfl rfl (j_ial rfl hx11 (j_iconst (-1 : Int32) rfl k32_m1 (g))))))) ?_
    refine J_ite (fun h12 => ?_) (fun h12 => ?_)
    · exact J_some (fun h => j_icmp_t rfl (cc_eq_t h12) (j_null rfl (j_aret (x := none) rfl (Or.inl ⟨_, rfl⟩) h)))
    exact J_some (fun h => j_icmp_f rfl (cc_eq_f h12) (j_aload_n rfl rfl (j_goto rfl (j_aret (x := some a5) rfl (Or.inl ⟨_, rfl⟩) h))))
theorem t_Rs_pageOfWife {fo : Option Nat} {d : Nat} (hd : 3 ≤ d) {v0 : Nat} {v1 : Int32} {v2 : Int32} {σ σ1 : q_H} {r : Option Nat} (h : f_Rs_pageOfWife v0 v1 v2 σ = some (r, σ1)) : q_Rel (q_rf fo) q_Ms d 116 [.ref v0, .int v1, .int v2] σ (.inl (some (q_rf r))) σ1 := by
  obtain ⟨d, rfl⟩ : ∃ d1, d = d1 + 1 := ⟨d - 1, by omega⟩
  exact q_Rel.of rfl rfl (b_Rs_pageOfWife hd _ _ _ σ _ _ h ⟨rfl, rfl⟩)

def f_Rs_table (v0 : Nat) (v1 : Int32) (v2 : Int32) (v3 : Int32) (σ : q_H) : Option ((Int32) × q_H) := q_sq (f_Rs_isTable v1 σ) fun x2 σ1 => if x2 = (0 : Int32) then (some ((0 : Int32), σ1)) else (q_sq (f_Rs_isFrom (0 : Int32) v2 (16 : Int32) σ1) fun x5 σ4 => if x5 = (0 : Int32) then (some ((0 : Int32), σ4)) else (q_sq (f_Rs_isFrom (0 : Int32) v3 (1000 : Int32) σ4) fun x8 σ7 => if x8 = (0 : Int32) then (some ((0 : Int32), σ7)) else ((q_gr (q_gf σ7 0 v0 7)).bind fun x10 => (q_gr (q_gf σ7 4 x10 0)).bind fun x11 => (q_gr (q_ga σ7 28 x11 v1)).bind fun x12 => (q_sa σ7 20 x12 v2 (.int v3)).bind fun σ13 => some ((1 : Int32), σ13))))
set_option maxRecDepth 100000 in
theorem b_Rs_table {fo : Option Nat} {d : Nat} (hd : 3 ≤ d + 1) {o : q_O} {σ' : q_H} (v0 : Nat) (v1 : Int32) (v2 : Int32) (v3 : Int32) (σ : q_H) : q_J (fun (r : Int32) (σ1 : q_H) => o = .inl (some (.int r)) ∧ σ' = σ1) (f_Rs_table v0 v1 v2 v3 σ) (q_G (q_rf fo) d m_Rs_table o σ' 0 [some (.ref v0), some (.int v1), some (.int v2), some (.int v3)] [] σ) := by
  unfold f_Rs_table
  refine J_cl fun x2 σ1 hσ1 => ?_
  refine q_J.step (fun g => j_iload_n rfl rfl (j_s1 [.int v1] [] rfl rfl rfl rfl rfl (t_Rs_isTable (by omega) hσ1) (g))) ?_
  refine J_ite (fun h3 => ?_) (fun h3 => ?_)
  · exact J_some (fun h => j_if_t rfl (cc_eq_t h3) (j_iconst (0 : Int32) rfl k32_0 (j_iret rfl (q_zr (Or.inl rfl)) h)))
  refine J_cl fun x5 σ4 hσ4 => ?_
  refine q_J.step (fun g => j_if_f rfl (cc_eq_f h3) (j_iconst (0 : Int32) rfl k32_0 (j_iload_n rfl rfl (j_bipush (16 : Int32) rfl kb_16 (j_s1 [.int (0 : Int32), .int v2, .int (16 : Int32)] [] rfl rfl rfl rfl rfl (t_Rs_isFrom (by omega) hσ4) (g)))))) ?_
  refine J_ite (fun h6 => ?_) (fun h6 => ?_)
  · exact J_some (fun h => j_if_t rfl (cc_eq_t h6) (j_iconst (0 : Int32) rfl k32_0 (j_iret rfl (q_zr (Or.inl rfl)) h)))
  refine J_cl fun x8 σ7 hσ7 => ?_
  refine q_J.step (fun g => j_if_f rfl (cc_eq_f h6) (j_iconst (0 : Int32) rfl k32_0 (j_iload_n rfl rfl (j_sipush (1000 : Int32) rfl ks_1000 (j_s1 [.int (0 : Int32), .int v3, .int (1000 : Int32)] [] rfl rfl rfl rfl rfl (t_Rs_isFrom (by omega) hσ7) (g)))))) ?_
  refine J_ite (fun h9 => ?_) (fun h9 => ?_)
  · exact J_some (fun h => j_if_f rfl (cc_ne_f h9) (j_iconst (0 : Int32) rfl k32_0 (j_iret rfl (q_zr (Or.inl rfl)) h)))
  refine J_bind fun x10 hx10 => ?_
  refine J_bind fun x11 hx11 => ?_
  refine J_bind fun x12 hx12 => ?_
  refine J_bind fun σ13 hσ13 => ?_
  exact J_some (fun h => j_if_t rfl (cc_ne_t h9) (j_aload_n rfl rfl (j_gfr rfl hx10 (j_gfr rfl hx11 (j_iload_n rfl rfl (j_aal rfl rfl hx12 (j_iload_n rfl rfl (j_iload_n rfl rfl (j_ias rfl hσ13 (j_iconst (1 : Int32) rfl k32_1 (j_iret rfl (q_zr (Or.inr rfl)) h)))))))))))
theorem t_Rs_table {fo : Option Nat} {d : Nat} (hd : 3 ≤ d) {v0 : Nat} {v1 : Int32} {v2 : Int32} {v3 : Int32} {σ σ1 : q_H} {r : Int32} (h : f_Rs_table v0 v1 v2 v3 σ = some (r, σ1)) : q_Rel (q_rf fo) q_Ms d 132 [.ref v0, .int v1, .int v2, .int v3] σ (.inl (some (.int r))) σ1 := by
  obtain ⟨d, rfl⟩ : ∃ d1, d = d1 + 1 := ⟨d - 1, by omega⟩
  exact q_Rel.of rfl rfl (b_Rs_table hd _ _ _ _ σ _ _ h ⟨rfl, rfl⟩)

def f_Rs_at (v0 : Nat) (v1 : Int32) (v2 : Int32) (σ : q_H) : Option ((Int32) × q_H) := q_sq (f_Rs_isTable v1 σ) fun x2 σ1 => if x2 = (0 : Int32) then (some ((-1 : Int32), σ1)) else (q_sq (f_Rs_isFrom (0 : Int32) v2 (200 : Int32) σ1) fun x5 σ4 => if x5 = (0 : Int32) then (some ((-1 : Int32), σ4)) else ((q_gr (q_gf σ4 0 v0 7)).bind fun x7 => (q_ob σ4 4 x7).bind fun w8 => q_sq (f_Li_fifthsAt x7 v1 v2 σ4) fun x10 σ9 => some (x10, σ9)))
set_option maxRecDepth 100000 in
theorem b_Rs_at {fo : Option Nat} {d : Nat} (hd : 3 ≤ d + 1) {o : q_O} {σ' : q_H} (v0 : Nat) (v1 : Int32) (v2 : Int32) (σ : q_H) : q_J (fun (r : Int32) (σ1 : q_H) => o = .inl (some (.int r)) ∧ σ' = σ1) (f_Rs_at v0 v1 v2 σ) (q_G (q_rf fo) d m_Rs_at o σ' 0 [some (.ref v0), some (.int v1), some (.int v2)] [] σ) := by
  unfold f_Rs_at
  refine J_cl fun x2 σ1 hσ1 => ?_
  refine q_J.step (fun g => j_iload_n rfl rfl (j_s1 [.int v1] [] rfl rfl rfl rfl rfl (t_Rs_isTable (by omega) hσ1) (g))) ?_
  refine J_ite (fun h3 => ?_) (fun h3 => ?_)
  · exact J_some (fun h => j_if_t rfl (cc_eq_t h3) (j_iconst (-1 : Int32) rfl k32_m1 (j_iret rfl rfl h)))
  refine J_cl fun x5 σ4 hσ4 => ?_
  refine q_J.step (fun g => j_if_f rfl (cc_eq_f h3) (j_iconst (0 : Int32) rfl k32_0 (j_iload_n rfl rfl (j_sipush (200 : Int32) rfl ks_200 (j_s1 [.int (0 : Int32), .int v2, .int (200 : Int32)] [] rfl rfl rfl rfl rfl (t_Rs_isFrom (by omega) hσ4) (g)))))) ?_
  refine J_ite (fun h6 => ?_) (fun h6 => ?_)
  · exact J_some (fun h => j_if_t rfl (cc_eq_t h6) (j_iconst (-1 : Int32) rfl k32_m1 (j_iret rfl rfl h)))
  refine J_bind fun x7 hx7 => ?_
  refine J_bind fun w8 hw8 => ?_
  refine J_cl fun x10 σ9 hσ9 => ?_
  exact J_some (fun h => j_if_f rfl (cc_eq_f h6) (j_aload_n rfl rfl (j_gfr rfl hx7 (j_iload_n rfl rfl (j_iload_n rfl rfl (j_v1 [.ref x7, .int v1, .int v2] [] rfl rfl rfl rfl rfl rfl hw8 (Or.inl rfl) (t_Li_fifthsAt (by omega) hσ9) (j_goto rfl (j_iret rfl rfl h))))))))
theorem t_Rs_at {fo : Option Nat} {d : Nat} (hd : 3 ≤ d) {v0 : Nat} {v1 : Int32} {v2 : Int32} {σ σ1 : q_H} {r : Int32} (h : f_Rs_at v0 v1 v2 σ = some (r, σ1)) : q_Rel (q_rf fo) q_Ms d 134 [.ref v0, .int v1, .int v2] σ (.inl (some (.int r))) σ1 := by
  obtain ⟨d, rfl⟩ : ∃ d1, d = d1 + 1 := ⟨d - 1, by omega⟩
  exact q_Rel.of rfl rfl (b_Rs_at hd _ _ _ σ _ _ h ⟨rfl, rfl⟩)

def f_Rs_groupLines_L25 (v0 : Nat) (v1 : Nat) (v2 : Int32) (v3 : Option Nat) : Nat → Int32 → q_H → Option ((Unit) × q_H)
  | 0, _, _ => none
  | n + 1, v4, σ => match v3 with | none => (some ((), σ)) | some a8 => ((q_gi (q_gf σ 8 a8 0)).bind fun x9 => if v4 < x9 then ((q_gr (q_gf σ 8 a8 5)).bind fun x11 => (q_gi (q_ga σ 20 x11 v4)).bind fun x12 => (q_gi (q_ga σ 20 v1 (if (16 : Int32) < (x12 / (5 : Int32)) then (16 : Int32) else (x12 / (5 : Int32))))).bind fun x13 => (q_sa σ 20 v1 (if (16 : Int32) < (x12 / (5 : Int32)) then (16 : Int32) else (x12 / (5 : Int32))) (.int (x13 + (1 : Int32)))).bind fun σ14 => f_Rs_groupLines_L25 v0 v1 v2 v3 n (v4 + (1 : Int32)) σ14) else (some ((), σ)))
set_option maxRecDepth 100000 in
theorem l_Rs_groupLines_L25 {fo : Option Nat} {d : Nat} (hd : 3 ≤ d + 1) {o : q_O} {σ' : q_H} {E : (Unit) → q_H → Prop} (v0 : Nat) (v1 : Nat) (v2 : Int32) (v3 : Option Nat) (hX : ∀ (t : Unit) σ1, E (t) σ1 → q_G (q_rf fo) d m_Rs_groupLines o σ' 64 [some (.ref v0), some (.ref v1), some (.int v2), none, none] [] σ1)  : ∀ (n : Nat) (v4 : Int32) (σ : q_H), q_J E (f_Rs_groupLines_L25 v0 v1 v2 v3 n v4 σ) (q_G (q_rf fo) d m_Rs_groupLines o σ' 25 [some (.ref v0), some (.ref v1), some (.int v2), some (q_rf v3), some (.int v4)] [] σ)
  | 0, v4, σ => J_none
  | n + 1, v4, σ => by
    unfold f_Rs_groupLines_L25
    refine q_J.step (fun g => j_aload_nO (x := v3) rfl rfl (g)) ?_
    cases ha8 : v3 with
    | none =>
      try subst ha8
      exact J_some (fun h => j_nul_t rfl (j_weak (l := [some (.ref v0), some (.ref v1), some (.int v2), none, none]) (And.intro (Or.inr rfl) (And.intro (Or.inr rfl) (And.intro (Or.inr rfl) (And.intro (Or.inl rfl) (And.intro (Or.inl rfl) True.intro))))) (hX _ _ h)))
    | some a8 =>
      try subst ha8
      refine J_bind fun x9 hx9 => ?_
      refine q_J.step (fun g => j_nul_f rfl (j_iload rfl rfl (j_aload_n rfl rfl (j_gfi rfl hx9 (g))))) ?_
      refine J_ite (fun h10 => ?_) (fun h10 => ?_)
      · refine J_bind fun x11 hx11 => ?_
        refine J_bind fun x12 hx12 => ?_
        refine J_bind fun x13 hx13 => ?_
        refine J_bind fun σ14 hσ14 => ?_
        exact q_J.step (fun g => j_icmp_f rfl (cc_ge_f h10) (j_aload_n rfl rfl (j_aload_n rfl rfl (j_gfr rfl hx11 (j_iload rfl rfl (j_ial rfl hx12 (j_iconst (5 : Int32) rfl k32_5 (j_idiv rfl (by decide) (j_bipush (16 : Int32) rfl kb_16 (j_min rfl rfl (j_dup2 rfl rfl rfl (j_ial rfl hx13 (j_iconst (1 : Int32) rfl k32_1 (j_iadd rfl (j_ias rfl hσ14 (j_iinc [some (.ref v0), some (.ref v1), some (.int v2), some (.ref a8), some (.int (v4 + (1 : Int32)))] (v4 + (1 : Int32)) rfl rfl (by rw [k32_1]) (Or.inr rfl) rfl (j_goto rfl (g)))))))))))))))))) (l_Rs_groupLines_L25 hd v0 v1 v2 (some a8) hX n (v4 + (1 : Int32)) σ14)
      exact J_some (fun h => j_icmp_t rfl (cc_ge_t h10) (j_weak (l := [some (.ref v0), some (.ref v1), some (.int v2), none, none]) (And.intro (Or.inr rfl) (And.intro (Or.inr rfl) (And.intro (Or.inr rfl) (And.intro (Or.inl rfl) (And.intro (Or.inl rfl) True.intro))))) (hX _ _ h)))

def f_Rs_groupLines_L7 (v0 : Nat) (v1 : Nat) : Nat → Int32 → q_H → Option ((Unit) × q_H)
  | 0, _, _ => none
  | n + 1, v2, σ => if v2 < (24 : Int32) then ((q_gr (q_gf σ 0 v0 3)).bind fun x4 => (q_ob σ 2 x4).bind fun w5 => q_sq (f_Sf_pageOf x4 v2 σ) fun x7 σ6 => q_sq (f_Rs_groupLines_L25 v0 v1 v2 x7 q_FU (0 : Int32) σ6) fun (t15 : Unit) σ16 => f_Rs_groupLines_L7 v0 v1 n (v2 + (1 : Int32)) σ16) else (some ((), σ))
set_option maxRecDepth 100000 in
theorem l_Rs_groupLines_L7 {fo : Option Nat} {d : Nat} (hd : 3 ≤ d + 1) {o : q_O} {σ' : q_H} {E : (Unit) → q_H → Prop} (v0 : Nat) (v1 : Nat) (hX : ∀ (t : Unit) σ1, E (t) σ1 → q_G (q_rf fo) d m_Rs_groupLines o σ' 70 [none, some (.ref v1), none, none, none] [] σ1)  : ∀ (n : Nat) (v2 : Int32) (σ : q_H), q_J E (f_Rs_groupLines_L7 v0 v1 n v2 σ) (q_G (q_rf fo) d m_Rs_groupLines o σ' 7 [some (.ref v0), some (.ref v1), some (.int v2), none, none] [] σ)
  | 0, v2, σ => J_none
  | n + 1, v2, σ => by
    unfold f_Rs_groupLines_L7
    refine q_J.step (fun g => j_iload_n rfl rfl (j_bipush (24 : Int32) rfl kb_24 (g))) ?_
    refine J_ite (fun h3 => ?_) (fun h3 => ?_)
    · refine J_bind fun x4 hx4 => ?_
      refine J_bind fun w5 hw5 => ?_
      refine J_cl fun x7 σ6 hσ6 => ?_
      refine J_sq (fun (t15 : Unit) (σ16 : q_H) => q_G (q_rf fo) d m_Rs_groupLines o σ' 64 [some (.ref v0), some (.ref v1), some (.int v2), none, none] [] σ16) (q_J.step (fun g => j_icmp_f rfl (cc_ge_f h3) (j_aload_n rfl rfl (j_gfr rfl hx4 (j_iload_n rfl rfl (j_v1 [.ref x4, .int v2] [] rfl rfl rfl rfl rfl rfl hw5 (Or.inl rfl) (t_Sf_pageOf (by omega) hσ6) (j_astore_nO (x := x7) [some (.ref v0), some (.ref v1), some (.int v2), some (q_rf x7), none] rfl rfl (Or.inr rfl) rfl (j_iconst (0 : Int32) rfl k32_0 (j_istore [some (.ref v0), some (.ref v1), some (.int v2), some (q_rf x7), some (.int (0 : Int32))] rfl rfl (Or.inr (q_rf_cat _)) rfl (g))))))))) (l_Rs_groupLines_L25 hd v0 v1 v2 x7 (fun _ _ h => h) q_FU (0 : Int32) σ6)) (fun t15 σ16 => ?_)
      exact q_J.step (fun g => j_iinc [some (.ref v0), some (.ref v1), some (.int (v2 + (1 : Int32))), none, none] (v2 + (1 : Int32)) rfl rfl (by rw [k32_1]) (Or.inr rfl) rfl (j_goto rfl (g))) (l_Rs_groupLines_L7 hd v0 v1 hX n (v2 + (1 : Int32)) σ16)
    exact J_some (fun h => j_icmp_t rfl (cc_ge_t h3) (j_weak (l := [none, some (.ref v1), none, none, none]) (And.intro (Or.inl rfl) (And.intro (Or.inr rfl) (And.intro (Or.inl rfl) (And.intro (Or.inr rfl) (And.intro (Or.inr rfl) True.intro))))) (hX _ _ h)))

def f_Rs_groupLines (v0 : Nat) (σ : q_H) : Option ((Nat) × q_H) := q_ma σ 20 (List.replicate 17 (.int 0)) fun σ1 a2 => q_sq (f_Rs_groupLines_L7 v0 a2 q_FU (0 : Int32) σ1) fun (t17 : Unit) σ18 => some (a2, σ18)
set_option maxRecDepth 100000 in
theorem b_Rs_groupLines {fo : Option Nat} {d : Nat} (hd : 3 ≤ d + 1) {o : q_O} {σ' : q_H} (v0 : Nat) (σ : q_H) : q_J (fun (r : Nat) (σ1 : q_H) => o = .inl (some (.ref r)) ∧ σ' = σ1) (f_Rs_groupLines v0 σ) (q_G (q_rf fo) d m_Rs_groupLines o σ' 0 [some (.ref v0), none, none, none, none] [] σ) := by
  unfold f_Rs_groupLines
  refine J_ma fun σ1 a2 hσ1 ha2 => ?_
  refine J_sq (fun (t17 : Unit) (σ18 : q_H) => q_G (q_rf fo) d m_Rs_groupLines o σ' 70 [none, some (.ref a2), none, none, none] [] σ18) (q_J.step (fun g => j_bipush (17 : Int32) rfl kb_17 (j_newk 17 (.int 0) rfl rfl rfl (by decide) (by decide) hσ1 ha2 (j_astore_n [some (.ref v0), some (.ref a2), none, none, none] rfl rfl (Or.inr rfl) rfl (j_iconst (0 : Int32) rfl k32_0 (j_istore_n [some (.ref v0), some (.ref a2), some (.int (0 : Int32)), none, none] rfl rfl (Or.inr rfl) rfl (g)))))) (l_Rs_groupLines_L7 hd v0 a2 (fun _ _ h => h) q_FU (0 : Int32) σ1)) (fun t17 σ18 => ?_)
  exact J_some (fun h => j_aload_n rfl rfl (j_aret (x := some a2) rfl (Or.inr ⟨_, rfl⟩) h))
theorem t_Rs_groupLines {fo : Option Nat} {d : Nat} (hd : 3 ≤ d) {v0 : Nat} {σ σ1 : q_H} {r : Nat} (h : f_Rs_groupLines v0 σ = some (r, σ1)) : q_Rel (q_rf fo) q_Ms d 136 [.ref v0] σ (.inl (some (.ref r))) σ1 := by
  obtain ⟨d, rfl⟩ : ∃ d1, d = d1 + 1 := ⟨d - 1, by omega⟩
  exact q_Rel.of rfl rfl (b_Rs_groupLines hd _ σ _ _ h ⟨rfl, rfl⟩)

def f_Rs_could (v0 : Nat) (v1 : Int32) (v2 : Int32) (v3 : Int32) (v4 : Int32) (σ : q_H) : Option ((Int64) × q_H) := q_sq (f_Rs_isTable v1 σ) fun x2 σ1 => if x2 = (0 : Int32) then (some ((-1 : Int64), σ1)) else (q_sq (f_Rs_isFrom (0 : Int32) v2 (120 : Int32) σ1) fun x5 σ4 => if x5 = (0 : Int32) then (some ((-1 : Int64), σ4)) else (q_sq (f_Rs_isFrom (0 : Int32) v3 (30 : Int32) σ4) fun x8 σ7 => if x8 = (0 : Int32) then (some ((-1 : Int64), σ7)) else (q_sq (f_Rs_isFrom (0 : Int32) v4 (1 : Int32) σ7) fun x11 σ10 => if x11 = (0 : Int32) then (some ((-1 : Int64), σ10)) else (q_ma σ10 10 [.long 0, .long 0] fun σ13 a14 => (q_gr (q_gf σ13 0 v0 7)).bind fun x15 => (q_ob σ13 4 x15).bind fun w16 => q_sq (f_Li_oddsOfSister x15 v1 v2 v3 σ13) fun x18 σ17 => q_sq (f_Ra_init a14 x18 (10000000000000000 : Int64) σ17) fun (_ : Unit) σ19 => if v4 = (0 : Int32) then ((q_gl' (q_gf σ19 10 a14 0)).bind fun x22 => some (x22, σ19)) else ((q_gl' (q_gf σ19 10 a14 1)).bind fun x23 => some (x23, σ19))))))
set_option maxRecDepth 100000 in
theorem b_Rs_could {fo : Option Nat} {d : Nat} (hd : 3 ≤ d + 1) {o : q_O} {σ' : q_H} (v0 : Nat) (v1 : Int32) (v2 : Int32) (v3 : Int32) (v4 : Int32) (σ : q_H) : q_J (fun (r : Int64) (σ1 : q_H) => o = .inl (some (.long r)) ∧ σ' = σ1) (f_Rs_could v0 v1 v2 v3 v4 σ) (q_G (q_rf fo) d m_Rs_could o σ' 0 [some (.ref v0), some (.int v1), some (.int v2), some (.int v3), some (.int v4), none] [] σ) := by
  unfold f_Rs_could
  refine J_cl fun x2 σ1 hσ1 => ?_
  refine q_J.step (fun g => j_iload_n rfl rfl (j_s1 [.int v1] [] rfl rfl rfl rfl rfl (t_Rs_isTable (by omega) hσ1) (g))) ?_
  refine J_ite (fun h3 => ?_) (fun h3 => ?_)
  · exact J_some (fun h => j_if_t rfl (cc_eq_t h3) (j_ldc2 (-1 : Int64) rfl kw_m1 (j_lret rfl rfl h)))
  refine J_cl fun x5 σ4 hσ4 => ?_
  refine q_J.step (fun g => j_if_f rfl (cc_eq_f h3) (j_iconst (0 : Int32) rfl k32_0 (j_iload_n rfl rfl (j_bipush (120 : Int32) rfl kb_120 (j_s1 [.int (0 : Int32), .int v2, .int (120 : Int32)] [] rfl rfl rfl rfl rfl (t_Rs_isFrom (by omega) hσ4) (g)))))) ?_
  refine J_ite (fun h6 => ?_) (fun h6 => ?_)
  · exact J_some (fun h => j_if_t rfl (cc_eq_t h6) (j_ldc2 (-1 : Int64) rfl kw_m1 (j_lret rfl rfl h)))
  refine J_cl fun x8 σ7 hσ7 => ?_
  refine q_J.step (fun g => j_if_f rfl (cc_eq_f h6) (j_iconst (0 : Int32) rfl k32_0 (j_iload_n rfl rfl (j_bipush (30 : Int32) rfl kb_30 (j_s1 [.int (0 : Int32), .int v3, .int (30 : Int32)] [] rfl rfl rfl rfl rfl (t_Rs_isFrom (by omega) hσ7) (g)))))) ?_
  refine J_ite (fun h9 => ?_) (fun h9 => ?_)
  · exact J_some (fun h => j_if_t rfl (cc_eq_t h9) (j_ldc2 (-1 : Int64) rfl kw_m1 (j_lret rfl rfl h)))
  refine J_cl fun x11 σ10 hσ10 => ?_
  refine q_J.step (fun g => j_if_f rfl (cc_eq_f h9) (j_iconst (0 : Int32) rfl k32_0 (j_iload rfl rfl (j_iconst (1 : Int32) rfl k32_1 (j_s1 [.int (0 : Int32), .int v4, .int (1 : Int32)] [] rfl rfl rfl rfl rfl (t_Rs_isFrom (by omega) hσ10) (g)))))) ?_
  refine J_ite (fun h12 => ?_) (fun h12 => ?_)
  · exact J_some (fun h => j_if_f rfl (cc_ne_f h12) (j_ldc2 (-1 : Int64) rfl kw_m1 (j_lret rfl rfl h)))
  refine J_ma fun σ13 a14 hσ13 ha14 => ?_
  refine J_bind fun x15 hx15 => ?_
  refine J_bind fun w16 hw16 => ?_
  refine J_cl fun x18 σ17 hσ17 => ?_
  refine J_cl fun _ σ19 hσ19 => ?_
  refine q_J.step (fun g => j_if_t rfl (cc_ne_t h12) (j_newk2 [.long 0, .long 0] rfl rfl rfl hσ13 ha14 (j_dup rfl rfl (j_aload_n rfl rfl (j_gfr rfl hx15 (j_iload_n rfl rfl (j_iload_n rfl rfl (j_iload_n rfl rfl (j_v1 [.ref x15, .int v1, .int v2, .int v3] [.ref a14, .ref a14] rfl rfl rfl rfl rfl rfl hw16 (Or.inl rfl) (t_Li_oddsOfSister (by omega) hσ17) (j_ldc2 (10000000000000000 : Int64) rfl kw_10000000000000000 (j_i0 [.ref a14, .long x18, .long (10000000000000000 : Int64)] [.ref a14] rfl rfl rfl rfl rfl rfl (t_Ra_init (by omega) hσ19) (j_astore [some (.ref v0), some (.int v1), some (.int v2), some (.int v3), some (.int v4), some (.ref a14)] rfl rfl (Or.inr rfl) rfl (j_iload rfl rfl (g)))))))))))))) ?_
  refine J_ite (fun h21 => ?_) (fun h21 => ?_)
  · refine J_bind fun x22 hx22 => ?_
    exact J_some (fun h => j_if_f rfl (cc_ne_f h21) (j_aload rfl rfl (j_gfl rfl hx22 (j_goto rfl (j_lret rfl rfl h)))))
  refine J_bind fun x23 hx23 => ?_
  exact J_some (fun h => j_if_t rfl (cc_ne_t h21) (j_aload rfl rfl (j_gfl rfl hx23 (j_lret rfl rfl h))))
theorem t_Rs_could {fo : Option Nat} {d : Nat} (hd : 3 ≤ d) {v0 : Nat} {v1 : Int32} {v2 : Int32} {v3 : Int32} {v4 : Int32} {σ σ1 : q_H} {r : Int64} (h : f_Rs_could v0 v1 v2 v3 v4 σ = some (r, σ1)) : q_Rel (q_rf fo) q_Ms d 140 [.ref v0, .int v1, .int v2, .int v3, .int v4] σ (.inl (some (.long r))) σ1 := by
  obtain ⟨d, rfl⟩ : ∃ d1, d = d1 + 1 := ⟨d - 1, by omega⟩
  exact q_Rel.of rfl rfl (b_Rs_could hd _ _ _ _ _ σ _ _ h ⟨rfl, rfl⟩)

