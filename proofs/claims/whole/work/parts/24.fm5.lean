/-! Methods of the reference. -/
def f_Mo_best_L21 (v0 : Nat) (v1 : Int32) : Nat → Int32 → Int32 → q_H → Option ((Int32) × q_H)
  | 0, _, _, _ => none
  | n + 1, v2, v3, σ => if v3 < (4 : Int32) then ((q_ob σ 12 v0).bind fun w6 => q_sq (f_Mo_fitOf v0 v3 v1 σ) fun x8 σ7 => (q_ob σ7 12 v0).bind fun w9 => q_sq (f_Mo_fitOf v0 v2 v1 σ7) fun x11 σ10 => if x8 < x11 then (f_Mo_best_L21 v0 v1 n v3 (v3 + (1 : Int32)) σ10) else (f_Mo_best_L21 v0 v1 n v2 (v3 + (1 : Int32)) σ10)) else (some (v2, σ))
set_option maxRecDepth 100000 in
theorem l_Mo_best_L21 {fo : Option Nat} {d : Nat} (hd : 5 ≤ d + 1) {o : q_O} {σ' : q_H} {E : (Int32) → q_H → Prop} (v0 : Nat) (v1 : Int32) (hX : ∀ (t : Int32) σ1, E (t) σ1 → q_G (q_rf fo) d m_Mo_best o σ' 54 [none, none, some (.int t), none] [] σ1)  : ∀ (n : Nat) (v2 : Int32) (v3 : Int32) (σ : q_H), q_J E (f_Mo_best_L21 v0 v1 n v2 v3 σ) (q_G (q_rf fo) d m_Mo_best o σ' 21 [some (.ref v0), some (.int v1), some (.int v2), some (.int v3)] [] σ)
  | 0, v2, v3, σ => J_none
  | n + 1, v2, v3, σ => by
    unfold f_Mo_best_L21
    refine q_J.step (fun g => j_iload_n rfl rfl (j_iconst (4 : Int32) rfl k32_4 (g))) ?_
    refine J_ite (fun h5 => ?_) (fun h5 => ?_)
    · refine J_bind fun w6 hw6 => ?_
      refine J_cl fun x8 σ7 hσ7 => ?_
      refine J_bind fun w9 hw9 => ?_
      refine J_cl fun x11 σ10 hσ10 => ?_
      refine q_J.step (fun g => j_icmp_f rfl (cc_ge_f h5) (j_aload_n rfl rfl (j_iload_n rfl rfl (j_iload_n rfl rfl (j_v1 [.ref v0, .int v3, .int v1] [] rfl rfl rfl rfl rfl rfl hw6 (Or.inl rfl) (t_Mo_fitOf (by omega) hσ7) (j_aload_n rfl rfl (j_iload_n rfl rfl (j_iload_n rfl rfl (j_v1 [.ref v0, .int v2, .int v1] [.long x8] rfl rfl rfl rfl rfl rfl hw9 (Or.inl rfl) (t_Mo_fitOf (by omega) hσ10) (j_lcmp rfl (g))))))))))) ?_
      refine J_ite (fun h12 => ?_) (fun h12 => ?_)
      · exact q_J.step (fun g => j_if_f rfl (lc_ge_f h12) (j_iload_n rfl rfl (j_goto rfl (j_istore_n [some (.ref v0), some (.int v1), some (.int v3), some (.int v3)] rfl rfl (Or.inr rfl) rfl (j_iinc [some (.ref v0), some (.int v1), some (.int v3), some (.int (v3 + (1 : Int32)))] (v3 + (1 : Int32)) rfl rfl (by rw [k32_1]) (Or.inr rfl) rfl (j_goto rfl (g))))))) (l_Mo_best_L21 hd v0 v1 hX n v3 (v3 + (1 : Int32)) σ10)
      exact q_J.step (fun g => j_if_t rfl (lc_ge_t h12) (j_iload_n rfl rfl (j_istore_n [some (.ref v0), some (.int v1), some (.int v2), some (.int v3)] rfl rfl (Or.inr rfl) rfl (j_iinc [some (.ref v0), some (.int v1), some (.int v2), some (.int (v3 + (1 : Int32)))] (v3 + (1 : Int32)) rfl rfl (by rw [k32_1]) (Or.inr rfl) rfl (j_goto rfl (g)))))) (l_Mo_best_L21 hd v0 v1 hX n v2 (v3 + (1 : Int32)) σ10)
    exact J_some (fun h => j_icmp_t rfl (cc_ge_t h5) (j_weak (l := [none, none, some (.int v2), none]) (And.intro (Or.inl rfl) (And.intro (Or.inl rfl) (And.intro (Or.inr rfl) (And.intro (Or.inl rfl) True.intro)))) (hX _ _ h)))

def f_Mo_best (v0 : Nat) (v1 : Int32) (σ : q_H) : Option ((Int32) × q_H) := (q_sf σ 12 v0 0 (.int (0 : Int32))).bind fun σ1 => q_sq (f_Mo_within v1 (0 : Int32) (16 : Int32) σ1) fun x3 σ2 => if x3 = (0 : Int32) then (some ((-1 : Int32), σ2)) else (q_sq (f_Mo_best_L21 v0 v1 q_FU (0 : Int32) (1 : Int32) σ2) fun (t13 : Int32) σ14 => some (t13, σ14))
set_option maxRecDepth 100000 in
theorem b_Mo_best {fo : Option Nat} {d : Nat} (hd : 5 ≤ d + 1) {o : q_O} {σ' : q_H} (v0 : Nat) (v1 : Int32) (σ : q_H) : q_J (fun (r : Int32) (σ1 : q_H) => o = .inl (some (.int r)) ∧ σ' = σ1) (f_Mo_best v0 v1 σ) (q_G (q_rf fo) d m_Mo_best o σ' 0 [some (.ref v0), some (.int v1), none, none] [] σ) := by
  unfold f_Mo_best
  refine J_bind fun σ1 hσ1 => ?_
  refine J_cl fun x3 σ2 hσ2 => ?_
  refine q_J.step (fun g => j_aload_n rfl rfl (j_iconst (0 : Int32) rfl k32_0 (j_putf rfl rfl rfl rfl hσ1 (j_iload_n rfl rfl (j_iconst (0 : Int32) rfl k32_0 (j_bipush (16 : Int32) rfl kb_16 (j_s1 [.int v1, .int (0 : Int32), .int (16 : Int32)] [] rfl rfl rfl rfl rfl (t_Mo_within (by omega) hσ2) (g)))))))) ?_
  refine J_ite (fun h4 => ?_) (fun h4 => ?_)
  · exact J_some (fun h => j_if_f rfl (cc_ne_f h4) (j_iconst (-1 : Int32) rfl k32_m1 (j_iret rfl rfl h)))
  refine J_sq (fun (t13 : Int32) (σ14 : q_H) => q_G (q_rf fo) d m_Mo_best o σ' 54 [none, none, some (.int t13), none] [] σ14) (q_J.step (fun g => j_if_t rfl (cc_ne_t h4) (j_iconst (0 : Int32) rfl k32_0 (j_istore_n [some (.ref v0), some (.int v1), some (.int (0 : Int32)), none] rfl rfl (Or.inr rfl) rfl (j_iconst (1 : Int32) rfl k32_1 (j_istore_n [some (.ref v0), some (.int v1), some (.int (0 : Int32)), some (.int (1 : Int32))] rfl rfl (Or.inr rfl) rfl (g)))))) (l_Mo_best_L21 hd v0 v1 (fun _ _ h => h) q_FU (0 : Int32) (1 : Int32) σ2)) (fun t13 σ14 => ?_)
  exact J_some (fun h => j_iload_n rfl rfl (j_iret rfl rfl h))
theorem t_Mo_best {fo : Option Nat} {d : Nat} (hd : 5 ≤ d) {v0 : Nat} {v1 : Int32} {σ σ1 : q_H} {r : Int32} (h : f_Mo_best v0 v1 σ = some (r, σ1)) : q_Rel (q_rf fo) q_Ms d 240 [.ref v0, .int v1] σ (.inl (some (.int r))) σ1 := by
  obtain ⟨d, rfl⟩ : ∃ d1, d = d1 + 1 := ⟨d - 1, by omega⟩
  exact q_Rel.of rfl rfl (b_Mo_best hd _ _ σ _ _ h ⟨rfl, rfl⟩)

def f_Mo_law_L44 (v0 : Nat) (v1 : Int32) : Nat → Int32 → q_H → Option ((Unit) × q_H)
  | 0, _, _ => none
  | n + 1, v2, σ => if v2 < (6 : Int32) then ((q_gr (q_gf σ 12 v0 36)).bind fun x18 => (q_gr (q_gf σ 12 v0 36)).bind fun x19 => (q_gi (q_ga σ 20 x19 ((24 : Int32) + v2))).bind fun x20 => (q_sa σ 20 x18 (((6 : Int32) * v1) + v2) (.int ((x20 - (4000 : Int32)) + ((1000 : Int32) * v1)))).bind fun σ21 => (q_gr (q_gf σ21 12 v0 37)).bind fun x22 => (q_gr (q_gf σ21 12 v0 37)).bind fun x23 => (q_gi (q_ga σ21 20 x23 ((24 : Int32) + v2))).bind fun x24 => (q_sa σ21 20 x22 (((6 : Int32) * v1) + v2) (.int ((x24 - (4000 : Int32)) + ((1000 : Int32) * v1)))).bind fun σ25 => f_Mo_law_L44 v0 v1 n (v2 + (1 : Int32)) σ25) else (some ((), σ))
set_option maxRecDepth 100000 in
theorem l_Mo_law_L44 {fo : Option Nat} {d : Nat} (hd : 5 ≤ d + 1) {o : q_O} {σ' : q_H} {E : (Unit) → q_H → Prop} (v0 : Nat) (v1 : Int32) (hX : ∀ (t : Unit) σ1, E (t) σ1 → q_G (q_rf fo) d m_Mo_law o σ' 116 [some (.ref v0), some (.int v1), none] [] σ1)  : ∀ (n : Nat) (v2 : Int32) (σ : q_H), q_J E (f_Mo_law_L44 v0 v1 n v2 σ) (q_G (q_rf fo) d m_Mo_law o σ' 44 [some (.ref v0), some (.int v1), some (.int v2)] [] σ)
  | 0, v2, σ => J_none
  | n + 1, v2, σ => by
    unfold f_Mo_law_L44
    refine q_J.step (fun g => j_iload_n rfl rfl (j_bipush (6 : Int32) rfl kb_6 (g))) ?_
    refine J_ite (fun h17 => ?_) (fun h17 => ?_)
    · refine J_bind fun x18 hx18 => ?_
      refine J_bind fun x19 hx19 => ?_
      refine J_bind fun x20 hx20 => ?_
      refine J_bind fun σ21 hσ21 => ?_
      refine J_bind fun x22 hx22 => ?_
      refine J_bind fun x23 hx23 => ?_
      refine J_bind fun x24 hx24 => ?_
      refine J_bind fun σ25 hσ25 => ?_
      exact q_J.step (fun g => j_icmp_f rfl (cc_ge_f h17) (j_aload_n rfl rfl (j_gfr rfl hx18 (j_bipush (6 : Int32) rfl kb_6 (j_iload_n rfl rfl (j_imul rfl (j_iload_n rfl rfl (j_iadd rfl (j_aload_n rfl rfl (j_gfr rfl hx19 (j_bipush (24 : Int32) rfl kb_24 (j_iload_n rfl rfl (j_iadd rfl (j_ial rfl hx20 (j_sipush (4000 : Int32) rfl ks_4000 (j_isub rfl (j_sipush (1000 : Int32) rfl ks_1000 (j_iload_n rfl rfl (j_imul rfl (j_iadd rfl (j_ias rfl hσ21 (j_aload_n rfl rfl (j_gfr rfl hx22 (j_bipush (6 : Int32) rfl kb_6 (j_iload_n rfl rfl (j_imul rfl (j_iload_n rfl rfl (j_iadd rfl (j_aload_n rfl rfl (j_gfr rfl hx23 (j_bipush (24 : Int32) rfl kb_24 (j_iload_n rfl rfl (j_iadd rfl (j_ial rfl hx24 (j_sipush (4000 : Int32) rfl ks_4000 (j_isub rfl (j_sipush (1000 : Int32) rfl ks_1000 (j_iload_n rfl rfl (j_imul rfl (j_iadd rfl (j_ias rfl hσ25 (j_iinc [some (.ref v0), some (.int v1), some (.int (v2 + (1 : Int32)))] (v2 + (1 : Int32)) rfl rfl (by rw [k32_1]) (Or.inr rfl) rfl (j_goto rfl (g)))))))))))))))))))))))))))))))))))))))))))) (l_Mo_law_L44 hd v0 v1 hX n (v2 + (1 : Int32)) σ25)
    exact J_some (fun h => j_icmp_t rfl (cc_ge_t h17) (j_weak (l := [some (.ref v0), some (.int v1), none]) (And.intro (Or.inr rfl) (And.intro (Or.inr rfl) (And.intro (Or.inl rfl) True.intro))) (hX _ _ h)))

def f_Mo_law_L118 (v0 : Nat) (v1 : Int32) : Nat → Int32 → q_H → Option ((Unit) × q_H)
  | 0, _, _ => none
  | n + 1, v2, σ => if v2 < (1000 : Int32) then ((q_gr (q_gf σ 12 v0 38)).bind fun x29 => (q_gr (q_gf σ 12 v0 38)).bind fun x30 => (q_gi (q_ga σ 20 x30 ((4000 : Int32) + v2))).bind fun x31 => (q_sa σ 20 x29 (((1000 : Int32) * v1) + v2) (.int x31)).bind fun σ32 => f_Mo_law_L118 v0 v1 n (v2 + (1 : Int32)) σ32) else (some ((), σ))
set_option maxRecDepth 100000 in
theorem l_Mo_law_L118 {fo : Option Nat} {d : Nat} (hd : 5 ≤ d + 1) {o : q_O} {σ' : q_H} {E : (Unit) → q_H → Prop} (v0 : Nat) (v1 : Int32) (hX : ∀ (t : Unit) σ1, E (t) σ1 → q_G (q_rf fo) d m_Mo_law o σ' 153 [none, none, none] [] σ1)  : ∀ (n : Nat) (v2 : Int32) (σ : q_H), q_J E (f_Mo_law_L118 v0 v1 n v2 σ) (q_G (q_rf fo) d m_Mo_law o σ' 118 [some (.ref v0), some (.int v1), some (.int v2)] [] σ)
  | 0, v2, σ => J_none
  | n + 1, v2, σ => by
    unfold f_Mo_law_L118
    refine q_J.step (fun g => j_iload_n rfl rfl (j_sipush (1000 : Int32) rfl ks_1000 (g))) ?_
    refine J_ite (fun h28 => ?_) (fun h28 => ?_)
    · refine J_bind fun x29 hx29 => ?_
      refine J_bind fun x30 hx30 => ?_
      refine J_bind fun x31 hx31 => ?_
      refine J_bind fun σ32 hσ32 => ?_
      exact q_J.step (fun g => j_icmp_f rfl (cc_ge_f h28) (j_aload_n rfl rfl (j_gfr rfl hx29 (j_sipush (1000 : Int32) rfl ks_1000 (j_iload_n rfl rfl (j_imul rfl (j_iload_n rfl rfl (j_iadd rfl (j_aload_n rfl rfl (j_gfr rfl hx30 (j_sipush (4000 : Int32) rfl ks_4000 (j_iload_n rfl rfl (j_iadd rfl (j_ial rfl hx31 (j_ias rfl hσ32 (j_iinc [some (.ref v0), some (.int v1), some (.int (v2 + (1 : Int32)))] (v2 + (1 : Int32)) rfl rfl (by rw [k32_1]) (Or.inr rfl) rfl (j_goto rfl (g)))))))))))))))))) (l_Mo_law_L118 hd v0 v1 hX n (v2 + (1 : Int32)) σ32)
    exact J_some (fun h => j_icmp_t rfl (cc_ge_t h28) (j_weak (l := [none, none, none]) (And.intro (Or.inl rfl) (And.intro (Or.inl rfl) (And.intro (Or.inl rfl) True.intro))) (hX _ _ h)))

def f_Mo_law (v0 : Nat) (v1 : Int32) (σ : q_H) : Option ((Int32) × q_H) := (q_sf σ 12 v0 0 (.int (0 : Int32))).bind fun σ1 => (q_ob σ1 12 v0).bind fun w2 => q_sq (f_Mo_starts v0 σ1) fun (_ : Unit) σ3 => q_sq (f_Mo_isTable v1 σ3) fun x6 σ5 => if x6 = (0 : Int32) then (some ((-1 : Int32), σ5)) else ((q_ob σ5 12 v0).bind fun w8 => q_sq (f_Mo_readsLaw v0 σ5) fun x10 σ9 => if x10 = (0 : Int32) then ((q_gi (q_gf σ9 12 v0 24)).bind fun x12 => some (x12, σ9)) else ((q_gr (q_gf σ9 12 v0 35)).bind fun x13 => (q_gr (q_gf σ9 12 v0 35)).bind fun x14 => (q_gi (q_ga σ9 20 x14 (4 : Int32))).bind fun x15 => (q_sa σ9 20 x13 v1 (.int x15)).bind fun σ16 => q_sq (f_Mo_law_L44 v0 v1 q_FU (0 : Int32) σ16) fun (t26 : Unit) σ27 => q_sq (f_Mo_law_L118 v0 v1 q_FU (0 : Int32) σ27) fun (t33 : Unit) σ34 => some ((0 : Int32), σ34)))
set_option maxRecDepth 100000 in
theorem b_Mo_law {fo : Option Nat} {d : Nat} (hd : 5 ≤ d + 1) {o : q_O} {σ' : q_H} (v0 : Nat) (v1 : Int32) (σ : q_H) : q_J (fun (r : Int32) (σ1 : q_H) => o = .inl (some (.int r)) ∧ σ' = σ1) (f_Mo_law v0 v1 σ) (q_G (q_rf fo) d m_Mo_law o σ' 0 [some (.ref v0), some (.int v1), none] [] σ) := by
  unfold f_Mo_law
  refine J_bind fun σ1 hσ1 => ?_
  refine J_bind fun w2 hw2 => ?_
  refine J_cl fun _ σ3 hσ3 => ?_
  refine J_cl fun x6 σ5 hσ5 => ?_
  refine q_J.step (fun g => j_aload_n rfl rfl (j_iconst (0 : Int32) rfl k32_0 (j_putf rfl rfl rfl rfl hσ1 (j_aload_n rfl rfl (j_v0 [.ref v0] [] rfl rfl rfl rfl rfl rfl hw2 (Or.inl rfl) (t_Mo_starts (by omega) hσ3) (j_iload_n rfl rfl (j_s1 [.int v1] [] rfl rfl rfl rfl rfl (t_Mo_isTable (by omega) hσ5) (g)))))))) ?_
  refine J_ite (fun h7 => ?_) (fun h7 => ?_)
  · exact J_some (fun h => j_if_f rfl (cc_ne_f h7) (j_iconst (-1 : Int32) rfl k32_m1 (j_iret rfl rfl h)))
  refine J_bind fun w8 hw8 => ?_
  refine J_cl fun x10 σ9 hσ9 => ?_
  refine q_J.step (fun g => j_if_t rfl (cc_ne_t h7) (j_aload_n rfl rfl (j_v1 [.ref v0] [] rfl rfl rfl rfl rfl rfl hw8 (Or.inl rfl) (t_Mo_readsLaw (by omega) hσ9) (g)))) ?_
  refine J_ite (fun h11 => ?_) (fun h11 => ?_)
  · refine J_bind fun x12 hx12 => ?_
    exact J_some (fun h => j_if_f rfl (cc_ne_f h11) (j_aload_n rfl rfl (j_gfi rfl hx12 (j_iret rfl rfl h))))
  refine J_bind fun x13 hx13 => ?_
  refine J_bind fun x14 hx14 => ?_
  refine J_bind fun x15 hx15 => ?_
  refine J_bind fun σ16 hσ16 => ?_
  refine J_sq (fun (t26 : Unit) (σ27 : q_H) => q_G (q_rf fo) d m_Mo_law o σ' 116 [some (.ref v0), some (.int v1), none] [] σ27) (q_J.step (fun g => j_if_t rfl (cc_ne_t h11) (j_aload_n rfl rfl (j_gfr rfl hx13 (j_iload_n rfl rfl (j_aload_n rfl rfl (j_gfr rfl hx14 (j_iconst (4 : Int32) rfl k32_4 (j_ial rfl hx15 (j_ias rfl hσ16 (j_iconst (0 : Int32) rfl k32_0 (j_istore_n [some (.ref v0), some (.int v1), some (.int (0 : Int32))] rfl rfl (Or.inr rfl) rfl (g)))))))))))) (l_Mo_law_L44 hd v0 v1 (fun _ _ h => h) q_FU (0 : Int32) σ16)) (fun t26 σ27 => ?_)
  refine J_sq (fun (t33 : Unit) (σ34 : q_H) => q_G (q_rf fo) d m_Mo_law o σ' 153 [none, none, none] [] σ34) (q_J.step (fun g => j_iconst (0 : Int32) rfl k32_0 (j_istore_n [some (.ref v0), some (.int v1), some (.int (0 : Int32))] rfl rfl (Or.inr rfl) rfl (g))) (l_Mo_law_L118 hd v0 v1 (fun _ _ h => h) q_FU (0 : Int32) σ27)) (fun t33 σ34 => ?_)
  exact J_some (fun h => j_iconst (0 : Int32) rfl k32_0 (j_iret rfl rfl h))
theorem t_Mo_law {fo : Option Nat} {d : Nat} (hd : 5 ≤ d) {v0 : Nat} {v1 : Int32} {σ σ1 : q_H} {r : Int32} (h : f_Mo_law v0 v1 σ = some (r, σ1)) : q_Rel (q_rf fo) q_Ms d 248 [.ref v0, .int v1] σ (.inl (some (.int r))) σ1 := by
  obtain ⟨d, rfl⟩ : ∃ d1, d = d1 + 1 := ⟨d - 1, by omega⟩
  exact q_Rel.of rfl rfl (b_Mo_law hd _ _ σ _ _ h ⟨rfl, rfl⟩)

def f_Mo_sort (v0 : Nat) (v1 : Int32) (v2 : Int32) (σ : q_H) : Option ((Int32) × q_H) := (q_sf σ 12 v0 0 (.int (0 : Int32))).bind fun σ1 => (q_ob σ1 12 v0).bind fun w2 => q_sq (f_Mo_isWife v0 v1 v2 σ1) fun x4 σ3 => if x4 = (0 : Int32) then (some ((-1 : Int32), σ3)) else ((q_ob σ3 12 v0).bind fun w6 => q_sq (f_Mo_sortOf v0 v1 v2 σ3) fun x8 σ7 => some (x8, σ7))
set_option maxRecDepth 100000 in
theorem b_Mo_sort {fo : Option Nat} {d : Nat} (hd : 6 ≤ d + 1) {o : q_O} {σ' : q_H} (v0 : Nat) (v1 : Int32) (v2 : Int32) (σ : q_H) : q_J (fun (r : Int32) (σ1 : q_H) => o = .inl (some (.int r)) ∧ σ' = σ1) (f_Mo_sort v0 v1 v2 σ) (q_G (q_rf fo) d m_Mo_sort o σ' 0 [some (.ref v0), some (.int v1), some (.int v2)] [] σ) := by
  unfold f_Mo_sort
  refine J_bind fun σ1 hσ1 => ?_
  refine J_bind fun w2 hw2 => ?_
  refine J_cl fun x4 σ3 hσ3 => ?_
  refine q_J.step (fun g => j_aload_n rfl rfl (j_iconst (0 : Int32) rfl k32_0 (j_putf rfl rfl rfl rfl hσ1 (j_aload_n rfl rfl (j_iload_n rfl rfl (j_iload_n rfl rfl (j_v1 [.ref v0, .int v1, .int v2] [] rfl rfl rfl rfl rfl rfl hw2 (Or.inl rfl) (t_Mo_isWife (by omega) hσ3) (g)))))))) ?_
  refine J_ite (fun h5 => ?_) (fun h5 => ?_)
  · exact J_some (fun h => j_if_t rfl (cc_eq_t h5) (j_iconst (-1 : Int32) rfl k32_m1 (j_iret rfl rfl h)))
  refine J_bind fun w6 hw6 => ?_
  refine J_cl fun x8 σ7 hσ7 => ?_
  exact J_some (fun h => j_if_f rfl (cc_eq_f h5) (j_aload_n rfl rfl (j_iload_n rfl rfl (j_iload_n rfl rfl (j_v1 [.ref v0, .int v1, .int v2] [] rfl rfl rfl rfl rfl rfl hw6 (Or.inl rfl) (t_Mo_sortOf (by omega) hσ7) (j_goto rfl (j_iret rfl rfl h)))))))
theorem t_Mo_sort {fo : Option Nat} {d : Nat} (hd : 6 ≤ d) {v0 : Nat} {v1 : Int32} {v2 : Int32} {σ σ1 : q_H} {r : Int32} (h : f_Mo_sort v0 v1 v2 σ = some (r, σ1)) : q_Rel (q_rf fo) q_Ms d 199 [.ref v0, .int v1, .int v2] σ (.inl (some (.int r))) σ1 := by
  obtain ⟨d, rfl⟩ : ∃ d1, d = d1 + 1 := ⟨d - 1, by omega⟩
  exact q_Rel.of rfl rfl (b_Mo_sort hd _ _ _ σ _ _ h ⟨rfl, rfl⟩)

def f_Mo_countOf_L36 (v0 : Nat) (v1 : Int32) (v2 : Int32) (v3 : Int32) (v4 : Int32) (v5 : Int32) (v7 : Int32) : Nat → Int32 → Int32 → q_H → Option ((Int32) × q_H)
  | 0, _, _, _ => none
  | n + 1, v6, v8, σ => (q_gr (q_gf σ 12 v0 7)).bind fun x7 => (q_gi (q_ga σ 20 x7 v7)).bind fun x8 => if v8 < x8 then ((q_ob σ 12 v0).bind fun w10 => q_sq (f_Mo_isWife v0 v7 v8 σ) fun x12 σ11 => if x12 = (0 : Int32) then (f_Mo_countOf_L36 v0 v1 v2 v3 v4 v5 v7 n (v6 + (0 : Int32)) (v8 + (1 : Int32)) σ11) else ((q_ob σ11 12 v0).bind fun w14 => q_sq (f_Mo_sortOf v0 v7 v8 σ11) fun x16 σ15 => if ((v4 >>> (x16 &&& 31)) &&& (1 : Int32)) = (1 : Int32) then ((q_ob σ15 12 v0).bind fun w18 => q_sq (f_Mo_takenOf v0 v7 v8 σ15) fun x20 σ19 => if v5 < x20 then (f_Mo_countOf_L36 v0 v1 v2 v3 v4 v5 v7 n (v6 + (0 : Int32)) (v8 + (1 : Int32)) σ19) else (f_Mo_countOf_L36 v0 v1 v2 v3 v4 v5 v7 n (v6 + (1 : Int32)) (v8 + (1 : Int32)) σ19)) else (f_Mo_countOf_L36 v0 v1 v2 v3 v4 v5 v7 n (v6 + (0 : Int32)) (v8 + (1 : Int32)) σ15))) else (some (v6, σ))
set_option maxRecDepth 100000 in
theorem l_Mo_countOf_L36 {fo : Option Nat} {d : Nat} (hd : 6 ≤ d + 1) {o : q_O} {σ' : q_H} {E : (Int32) → q_H → Prop} (v0 : Nat) (v1 : Int32) (v2 : Int32) (v3 : Int32) (v4 : Int32) (v5 : Int32) (v7 : Int32) (hX : ∀ (t : Int32) σ1, E (t) σ1 → q_G (q_rf fo) d m_Mo_countOf o σ' 105 [some (.ref v0), some (.int v1), some (.int v2), some (.int v3), some (.int v4), some (.int v5), some (.int t), some (.int v7), none] [] σ1)  : ∀ (n : Nat) (v6 : Int32) (v8 : Int32) (σ : q_H), q_J E (f_Mo_countOf_L36 v0 v1 v2 v3 v4 v5 v7 n v6 v8 σ) (q_G (q_rf fo) d m_Mo_countOf o σ' 36 [some (.ref v0), some (.int v1), some (.int v2), some (.int v3), some (.int v4), some (.int v5), some (.int v6), some (.int v7), some (.int v8)] [] σ)
  | 0, v6, v8, σ => J_none
  | n + 1, v6, v8, σ => by
    unfold f_Mo_countOf_L36
    refine J_bind fun x7 hx7 => ?_
    refine J_bind fun x8 hx8 => ?_
    refine q_J.step (fun g => j_iload rfl rfl (j_aload_n rfl rfl (j_gfr rfl hx7 (j_iload rfl rfl (j_ial rfl hx8 (g)))))) ?_
    refine J_ite (fun h9 => ?_) (fun h9 => ?_)
    · refine J_bind fun w10 hw10 => ?_
      refine J_cl fun x12 σ11 hσ11 => ?_
      refine q_J.step (fun g => j_icmp_f rfl (cc_ge_f h9) (j_iload rfl rfl (j_aload_n rfl rfl (j_iload rfl rfl (j_iload rfl rfl (j_v1 [.ref v0, .int v7, .int v8] [.int v6] rfl rfl rfl rfl rfl rfl hw10 (Or.inl rfl) (t_Mo_isWife (by omega) hσ11) (g))))))) ?_
      refine J_ite (fun h13 => ?_) (fun h13 => ?_)
      · exact q_J.step (fun g => j_if_t rfl (cc_eq_t h13) (j_iconst (0 : Int32) rfl k32_0 (j_iadd rfl (j_istore [some (.ref v0), some (.int v1), some (.int v2), some (.int v3), some (.int v4), some (.int v5), some (.int (v6 + (0 : Int32))), some (.int v7), some (.int v8)] rfl rfl (Or.inr rfl) rfl (j_iinc [some (.ref v0), some (.int v1), some (.int v2), some (.int v3), some (.int v4), some (.int v5), some (.int (v6 + (0 : Int32))), some (.int v7), some (.int (v8 + (1 : Int32)))] (v8 + (1 : Int32)) rfl rfl (by rw [k32_1]) (Or.inr rfl) rfl (j_goto rfl (g))))))) (l_Mo_countOf_L36 hd v0 v1 v2 v3 v4 v5 v7 hX n (v6 + (0 : Int32)) (v8 + (1 : Int32)) σ11)
      refine J_bind fun w14 hw14 => ?_
      refine J_cl fun x16 σ15 hσ15 => ?_
      refine q_J.step (fun g => j_if_f rfl (cc_eq_f h13) (j_iload rfl rfl (j_aload_n rfl rfl (j_iload rfl rfl (j_iload rfl rfl (j_v1 [.ref v0, .int v7, .int v8] [.int v4, .int v6] rfl rfl rfl rfl rfl rfl hw14 (Or.inl rfl) (t_Mo_sortOf (by omega) hσ15) (j_ishr rfl (j_iconst (1 : Int32) rfl k32_1 (j_iand rfl (j_iconst (1 : Int32) rfl k32_1 (g))))))))))) ?_
      refine J_ite (fun h17 => ?_) (fun h17 => ?_)
      · refine J_bind fun w18 hw18 => ?_
        refine J_cl fun x20 σ19 hσ19 => ?_
        refine q_J.step (fun g => j_icmp_f rfl (cc_ne_f h17) (j_aload_n rfl rfl (j_iload rfl rfl (j_iload rfl rfl (j_v1 [.ref v0, .int v7, .int v8] [.int v6] rfl rfl rfl rfl rfl rfl hw18 (Or.inl rfl) (t_Mo_takenOf (by omega) hσ19) (j_iload rfl rfl (g))))))) ?_
        refine J_ite (fun h21 => ?_) (fun h21 => ?_)
        · exact q_J.step (fun g => j_icmp_t rfl (cc_gt_t h21) (j_iconst (0 : Int32) rfl k32_0 (j_iadd rfl (j_istore [some (.ref v0), some (.int v1), some (.int v2), some (.int v3), some (.int v4), some (.int v5), some (.int (v6 + (0 : Int32))), some (.int v7), some (.int v8)] rfl rfl (Or.inr rfl) rfl (j_iinc [some (.ref v0), some (.int v1), some (.int v2), some (.int v3), some (.int v4), some (.int v5), some (.int (v6 + (0 : Int32))), some (.int v7), some (.int (v8 + (1 : Int32)))] (v8 + (1 : Int32)) rfl rfl (by rw [k32_1]) (Or.inr rfl) rfl (j_goto rfl (g))))))) (l_Mo_countOf_L36 hd v0 v1 v2 v3 v4 v5 v7 hX n (v6 + (0 : Int32)) (v8 + (1 : Int32)) σ19)
        exact q_J.step (fun g => j_icmp_f rfl (cc_gt_f h21) (j_iconst (1 : Int32) rfl k32_1 (j_goto rfl (j_iadd rfl (j_istore [some (.ref v0), some (.int v1), some (.int v2), some (.int v3), some (.int v4), some (.int v5), some (.int (v6 + (1 : Int32))), some (.int v7), some (.int v8)] rfl rfl (Or.inr rfl) rfl (j_iinc [some (.ref v0), some (.int v1), some (.int v2), some (.int v3), some (.int v4), some (.int v5), some (.int (v6 + (1 : Int32))), some (.int v7), some (.int (v8 + (1 : Int32)))] (v8 + (1 : Int32)) rfl rfl (by rw [k32_1]) (Or.inr rfl) rfl (j_goto rfl (g)))))))) (l_Mo_countOf_L36 hd v0 v1 v2 v3 v4 v5 v7 hX n (v6 + (1 : Int32)) (v8 + (1 : Int32)) σ19)
      exact q_J.step (fun g => j_icmp_t rfl (cc_ne_t h17) (j_iconst (0 : Int32) rfl k32_0 (j_iadd rfl (j_istore [some (.ref v0), some (.int v1), some (.int v2), some (.int v3), some (.int v4), some (.int v5), some (.int (v6 + (0 : Int32))), some (.int v7), some (.int v8)] rfl rfl (Or.inr rfl) rfl (j_iinc [some (.ref v0), some (.int v1), some (.int v2), some (.int v3), some (.int v4), some (.int v5), some (.int (v6 + (0 : Int32))), some (.int v7), some (.int (v8 + (1 : Int32)))] (v8 + (1 : Int32)) rfl rfl (by rw [k32_1]) (Or.inr rfl) rfl (j_goto rfl (g))))))) (l_Mo_countOf_L36 hd v0 v1 v2 v3 v4 v5 v7 hX n (v6 + (0 : Int32)) (v8 + (1 : Int32)) σ15)
    exact J_some (fun h => j_icmp_t rfl (cc_ge_t h9) (j_weak (l := [some (.ref v0), some (.int v1), some (.int v2), some (.int v3), some (.int v4), some (.int v5), some (.int v6), some (.int v7), none]) (And.intro (Or.inr rfl) (And.intro (Or.inr rfl) (And.intro (Or.inr rfl) (And.intro (Or.inr rfl) (And.intro (Or.inr rfl) (And.intro (Or.inr rfl) (And.intro (Or.inr rfl) (And.intro (Or.inr rfl) (And.intro (Or.inl rfl) True.intro))))))))) (hX _ _ h)))

def f_Mo_countOf_L6 (v0 : Nat) (v1 : Int32) (v2 : Int32) (v3 : Int32) (v4 : Int32) (v5 : Int32) : Nat → Int32 → Int32 → q_H → Option ((Int32) × q_H)
  | 0, _, _, _ => none
  | n + 1, v6, v7, σ => if v7 < (24 : Int32) then (if v7 = v3 then (f_Mo_countOf_L6 v0 v1 v2 v3 v4 v5 n v6 (v7 + (1 : Int32)) σ) else ((q_ob σ 12 v0).bind fun w3 => q_sq (f_Mo_isIn v0 v7 v1 v2 σ) fun x5 σ4 => if x5 = (0 : Int32) then (f_Mo_countOf_L6 v0 v1 v2 v3 v4 v5 n v6 (v7 + (1 : Int32)) σ4) else (q_sq (f_Mo_countOf_L36 v0 v1 v2 v3 v4 v5 v7 q_FU v6 (0 : Int32) σ4) fun (t22 : Int32) σ23 => f_Mo_countOf_L6 v0 v1 v2 v3 v4 v5 n t22 (v7 + (1 : Int32)) σ23))) else (some (v6, σ))
set_option maxRecDepth 100000 in
theorem l_Mo_countOf_L6 {fo : Option Nat} {d : Nat} (hd : 6 ≤ d + 1) {o : q_O} {σ' : q_H} {E : (Int32) → q_H → Prop} (v0 : Nat) (v1 : Int32) (v2 : Int32) (v3 : Int32) (v4 : Int32) (v5 : Int32) (hX : ∀ (t : Int32) σ1, E (t) σ1 → q_G (q_rf fo) d m_Mo_countOf o σ' 111 [none, none, none, none, none, none, some (.int t), none, none] [] σ1)  : ∀ (n : Nat) (v6 : Int32) (v7 : Int32) (σ : q_H), q_J E (f_Mo_countOf_L6 v0 v1 v2 v3 v4 v5 n v6 v7 σ) (q_G (q_rf fo) d m_Mo_countOf o σ' 6 [some (.ref v0), some (.int v1), some (.int v2), some (.int v3), some (.int v4), some (.int v5), some (.int v6), some (.int v7), none] [] σ)
  | 0, v6, v7, σ => J_none
  | n + 1, v6, v7, σ => by
    unfold f_Mo_countOf_L6
    refine q_J.step (fun g => j_iload rfl rfl (j_bipush (24 : Int32) rfl kb_24 (g))) ?_
    refine J_ite (fun h1 => ?_) (fun h1 => ?_)
    · refine q_J.step (fun g => j_icmp_f rfl (cc_ge_f h1) (j_iload rfl rfl (j_iload_n rfl rfl (g)))) ?_
      refine J_ite (fun h2 => ?_) (fun h2 => ?_)
      · exact q_J.step (fun g => j_icmp_t rfl (cc_eq_t h2) (j_iinc [some (.ref v0), some (.int v1), some (.int v2), some (.int v3), some (.int v4), some (.int v5), some (.int v6), some (.int (v7 + (1 : Int32))), none] (v7 + (1 : Int32)) rfl rfl (by rw [k32_1]) (Or.inr rfl) rfl (j_goto rfl (g)))) (l_Mo_countOf_L6 hd v0 v1 v2 v3 v4 v5 hX n v6 (v7 + (1 : Int32)) σ)
      refine J_bind fun w3 hw3 => ?_
      refine J_cl fun x5 σ4 hσ4 => ?_
      refine q_J.step (fun g => j_icmp_f rfl (cc_eq_f h2) (j_aload_n rfl rfl (j_iload rfl rfl (j_iload_n rfl rfl (j_iload_n rfl rfl (j_v1 [.ref v0, .int v7, .int v1, .int v2] [] rfl rfl rfl rfl rfl rfl hw3 (Or.inl rfl) (t_Mo_isIn (by omega) hσ4) (g))))))) ?_
      refine J_ite (fun h6 => ?_) (fun h6 => ?_)
      · exact q_J.step (fun g => j_if_f rfl (cc_ne_f h6) (j_goto rfl (j_iinc [some (.ref v0), some (.int v1), some (.int v2), some (.int v3), some (.int v4), some (.int v5), some (.int v6), some (.int (v7 + (1 : Int32))), none] (v7 + (1 : Int32)) rfl rfl (by rw [k32_1]) (Or.inr rfl) rfl (j_goto rfl (g))))) (l_Mo_countOf_L6 hd v0 v1 v2 v3 v4 v5 hX n v6 (v7 + (1 : Int32)) σ4)
      refine J_sq (fun (t22 : Int32) (σ23 : q_H) => q_G (q_rf fo) d m_Mo_countOf o σ' 105 [some (.ref v0), some (.int v1), some (.int v2), some (.int v3), some (.int v4), some (.int v5), some (.int t22), some (.int v7), none] [] σ23) (q_J.step (fun g => j_if_t rfl (cc_ne_t h6) (j_iconst (0 : Int32) rfl k32_0 (j_istore [some (.ref v0), some (.int v1), some (.int v2), some (.int v3), some (.int v4), some (.int v5), some (.int v6), some (.int v7), some (.int (0 : Int32))] rfl rfl (Or.inr rfl) rfl (g)))) (l_Mo_countOf_L36 hd v0 v1 v2 v3 v4 v5 v7 (fun _ _ h => h) q_FU v6 (0 : Int32) σ4)) (fun t22 σ23 => ?_)
      exact q_J.step (fun g => j_iinc [some (.ref v0), some (.int v1), some (.int v2), some (.int v3), some (.int v4), some (.int v5), some (.int t22), some (.int (v7 + (1 : Int32))), none] (v7 + (1 : Int32)) rfl rfl (by rw [k32_1]) (Or.inr rfl) rfl (j_goto rfl (g))) (l_Mo_countOf_L6 hd v0 v1 v2 v3 v4 v5 hX n t22 (v7 + (1 : Int32)) σ23)
    exact J_some (fun h => j_icmp_t rfl (cc_ge_t h1) (j_weak (l := [none, none, none, none, none, none, some (.int v6), none, none]) (And.intro (Or.inl rfl) (And.intro (Or.inl rfl) (And.intro (Or.inl rfl) (And.intro (Or.inl rfl) (And.intro (Or.inl rfl) (And.intro (Or.inl rfl) (And.intro (Or.inr rfl) (And.intro (Or.inl rfl) (And.intro (Or.inr rfl) True.intro))))))))) (hX _ _ h)))

def f_Mo_countOf (v0 : Nat) (v1 : Int32) (v2 : Int32) (v3 : Int32) (v4 : Int32) (v5 : Int32) (σ : q_H) : Option ((Int32) × q_H) := q_sq (f_Mo_countOf_L6 v0 v1 v2 v3 v4 v5 q_FU (0 : Int32) (0 : Int32) σ) fun (t24 : Int32) σ25 => some (t24, σ25)
set_option maxRecDepth 100000 in
theorem b_Mo_countOf {fo : Option Nat} {d : Nat} (hd : 6 ≤ d + 1) {o : q_O} {σ' : q_H} (v0 : Nat) (v1 : Int32) (v2 : Int32) (v3 : Int32) (v4 : Int32) (v5 : Int32) (σ : q_H) : q_J (fun (r : Int32) (σ1 : q_H) => o = .inl (some (.int r)) ∧ σ' = σ1) (f_Mo_countOf v0 v1 v2 v3 v4 v5 σ) (q_G (q_rf fo) d m_Mo_countOf o σ' 0 [some (.ref v0), some (.int v1), some (.int v2), some (.int v3), some (.int v4), some (.int v5), none, none, none] [] σ) := by
  unfold f_Mo_countOf
  refine J_sq (fun (t24 : Int32) (σ25 : q_H) => q_G (q_rf fo) d m_Mo_countOf o σ' 111 [none, none, none, none, none, none, some (.int t24), none, none] [] σ25) (q_J.step (fun g => j_iconst (0 : Int32) rfl k32_0 (j_istore [some (.ref v0), some (.int v1), some (.int v2), some (.int v3), some (.int v4), some (.int v5), some (.int (0 : Int32)), none, none] rfl rfl (Or.inr rfl) rfl (j_iconst (0 : Int32) rfl k32_0 (j_istore [some (.ref v0), some (.int v1), some (.int v2), some (.int v3), some (.int v4), some (.int v5), some (.int (0 : Int32)), some (.int (0 : Int32)), none] rfl rfl (Or.inr rfl) rfl (g))))) (l_Mo_countOf_L6 hd v0 v1 v2 v3 v4 v5 (fun _ _ h => h) q_FU (0 : Int32) (0 : Int32) σ)) (fun t24 σ25 => ?_)
  exact J_some (fun h => j_iload rfl rfl (j_iret rfl rfl h))
theorem t_Mo_countOf {fo : Option Nat} {d : Nat} (hd : 6 ≤ d) {v0 : Nat} {v1 : Int32} {v2 : Int32} {v3 : Int32} {v4 : Int32} {v5 : Int32} {σ σ1 : q_H} {r : Int32} (h : f_Mo_countOf v0 v1 v2 v3 v4 v5 σ = some (r, σ1)) : q_Rel (q_rf fo) q_Ms d 205 [.ref v0, .int v1, .int v2, .int v3, .int v4, .int v5] σ (.inl (some (.int r))) σ1 := by
  obtain ⟨d, rfl⟩ : ∃ d1, d = d1 + 1 := ⟨d - 1, by omega⟩
  exact q_Rel.of rfl rfl (b_Mo_countOf hd _ _ _ _ _ _ σ _ _ h ⟨rfl, rfl⟩)

def f_Mo_house (v0 : Nat) (v1 : Int32) (v2 : Int32) (σ : q_H) : Option ((Int32) × q_H) := (q_sf σ 12 v0 0 (.int (0 : Int32))).bind fun σ1 => (q_ob σ1 12 v0).bind fun w2 => q_sq (f_Mo_isThere v0 v1 σ1) fun x4 σ3 => if x4 = (0 : Int32) then (some ((-1 : Int32), σ3)) else ((q_ob σ3 12 v0).bind fun w6 => q_sq (f_Mo_isThere v0 v2 σ3) fun x8 σ7 => if x8 = (0 : Int32) then (some ((-1 : Int32), σ7)) else (if v1 = v2 then (some ((-1 : Int32), σ7)) else ((q_ob σ7 12 v0).bind fun w11 => q_sq (f_Mo_houses v0 σ7) fun (_ : Unit) σ12 => (q_gr (q_gf σ12 12 v0 27)).bind fun x14 => (q_gi (q_ga σ12 20 x14 v1)).bind fun x15 => (q_gr (q_gf σ12 12 v0 27)).bind fun x16 => (q_gi (q_ga σ12 20 x16 v2)).bind fun x17 => if x15 = x17 then (some ((1 : Int32), σ12)) else (some ((0 : Int32), σ12)))))
set_option maxRecDepth 100000 in
theorem b_Mo_house {fo : Option Nat} {d : Nat} (hd : 6 ≤ d + 1) {o : q_O} {σ' : q_H} (v0 : Nat) (v1 : Int32) (v2 : Int32) (σ : q_H) : q_J (fun (r : Int32) (σ1 : q_H) => o = .inl (some (.int r)) ∧ σ' = σ1) (f_Mo_house v0 v1 v2 σ) (q_G (q_rf fo) d m_Mo_house o σ' 0 [some (.ref v0), some (.int v1), some (.int v2)] [] σ) := by
  unfold f_Mo_house
  refine J_bind fun σ1 hσ1 => ?_
  refine J_bind fun w2 hw2 => ?_
  refine J_cl fun x4 σ3 hσ3 => ?_
  refine q_J.step (fun g => j_aload_n rfl rfl (j_iconst (0 : Int32) rfl k32_0 (j_putf rfl rfl rfl rfl hσ1 (j_aload_n rfl rfl (j_iload_n rfl rfl (j_v1 [.ref v0, .int v1] [] rfl rfl rfl rfl rfl rfl hw2 (Or.inl rfl) (t_Mo_isThere (by omega) hσ3) (g))))))) ?_
  refine J_ite (fun h5 => ?_) (fun h5 => ?_)
  · exact J_some (fun h => j_if_t rfl (cc_eq_t h5) (j_iconst (-1 : Int32) rfl k32_m1 (j_iret rfl rfl h)))
  refine J_bind fun w6 hw6 => ?_
  refine J_cl fun x8 σ7 hσ7 => ?_
  refine q_J.step (fun g => j_if_f rfl (cc_eq_f h5) (j_aload_n rfl rfl (j_iload_n rfl rfl (j_v1 [.ref v0, .int v2] [] rfl rfl rfl rfl rfl rfl hw6 (Or.inl rfl) (t_Mo_isThere (by omega) hσ7) (g))))) ?_
  refine J_ite (fun h9 => ?_) (fun h9 => ?_)
  · exact J_some (fun h => j_if_t rfl (cc_eq_t h9) (j_iconst (-1 : Int32) rfl k32_m1 (j_iret rfl rfl h)))
  refine q_J.step (fun g => j_if_f rfl (cc_eq_f h9) (j_iload_n rfl rfl (j_iload_n rfl rfl (g)))) ?_
  refine J_ite (fun h10 => ?_) (fun h10 => ?_)
  · exact J_some (fun h => j_icmp_f rfl (cc_ne_f h10) (j_iconst (-1 : Int32) rfl k32_m1 (j_iret rfl rfl h)))
  refine J_bind fun w11 hw11 => ?_
  refine J_cl fun _ σ12 hσ12 => ?_
  refine J_bind fun x14 hx14 => ?_
  refine J_bind fun x15 hx15 => ?_
  refine J_bind fun x16 hx16 => ?_
  refine J_bind fun x17 hx17 => ?_
  refine q_J.step (fun g => j_icmp_t rfl (cc_ne_t h10) (j_aload_n rfl rfl (j_v0 [.ref v0] [] rfl rfl rfl rfl rfl rfl hw11 (Or.inl rfl) (t_Mo_houses (by omega) hσ12) (j_aload_n rfl rfl (j_gfr rfl hx14 (j_iload_n rfl rfl (j_ial rfl hx15 (j_aload_n rfl rfl (j_gfr rfl hx16 (j_iload_n rfl rfl (j_ial rfl hx17 (g)))))))))))) ?_
  refine J_ite (fun h18 => ?_) (fun h18 => ?_)
  · exact J_some (fun h => j_icmp_f rfl (cc_ne_f h18) (j_iconst (1 : Int32) rfl k32_1 (j_goto rfl (j_iret rfl rfl h))))
  exact J_some (fun h => j_icmp_t rfl (cc_ne_t h18) (j_iconst (0 : Int32) rfl k32_0 (j_iret rfl rfl h)))
theorem t_Mo_house {fo : Option Nat} {d : Nat} (hd : 6 ≤ d) {v0 : Nat} {v1 : Int32} {v2 : Int32} {σ σ1 : q_H} {r : Int32} (h : f_Mo_house v0 v1 v2 σ = some (r, σ1)) : q_Rel (q_rf fo) q_Ms d 224 [.ref v0, .int v1, .int v2] σ (.inl (some (.int r))) σ1 := by
  obtain ⟨d, rfl⟩ : ∃ d1, d = d1 + 1 := ⟨d - 1, by omega⟩
  exact q_Rel.of rfl rfl (b_Mo_house hd _ _ _ σ _ _ h ⟨rfl, rfl⟩)

def f_Mo_known (v0 : Nat) (v1 : Int32) (v2 : Int32) (v3 : Int32) (σ : q_H) : Option ((Int32) × q_H) := (q_ob σ 12 v0).bind fun w1 => q_sq (f_Mo_isLine v0 v1 v2 σ) fun x3 σ2 => if x3 = (0 : Int32) then ((q_sf σ2 12 v0 0 (.int (1 : Int32))).bind fun σ5 => (q_gi (q_gf σ5 12 v0 0)).bind fun x6 => if x6 = (1 : Int32) then (some ((0 : Int32), σ5)) else ((q_ob σ5 12 v0).bind fun w8 => q_sq (f_Mo_knows v0 v1 v2 σ5) fun (_ : Unit) σ9 => (q_gi (q_gf σ9 12 v0 28)).bind fun x11 => (q_gi (q_gf σ9 12 v0 29)).bind fun x12 => q_sq (if x12 < x11 then (some ((1 : Int32), σ9)) else (some ((0 : Int32), σ9))) fun (t14 : Int32) σ15 => (q_sf σ15 12 v0 0 (.int t14)).bind fun σ16 => (q_gi (q_gf σ16 12 v0 0)).bind fun x17 => if x17 = (1 : Int32) then (some ((0 : Int32), σ16)) else (if v3 = (0 : Int32) then ((q_gi (q_gf σ16 12 v0 28)).bind fun x20 => some (x20, σ16)) else ((q_gi (q_gf σ16 12 v0 29)).bind fun x21 => some (x21, σ16))))) else (q_sq (f_Mo_within v3 (0 : Int32) (1 : Int32) σ2) fun x23 σ22 => q_sq (if x23 = (0 : Int32) then (some ((1 : Int32), σ22)) else (some ((0 : Int32), σ22))) fun (t25 : Int32) σ26 => (q_sf σ26 12 v0 0 (.int t25)).bind fun σ27 => (q_gi (q_gf σ27 12 v0 0)).bind fun x28 => if x28 = (1 : Int32) then (some ((0 : Int32), σ27)) else ((q_ob σ27 12 v0).bind fun w30 => q_sq (f_Mo_knows v0 v1 v2 σ27) fun (_ : Unit) σ31 => (q_gi (q_gf σ31 12 v0 28)).bind fun x33 => (q_gi (q_gf σ31 12 v0 29)).bind fun x34 => q_sq (if x34 < x33 then (some ((1 : Int32), σ31)) else (some ((0 : Int32), σ31))) fun (t36 : Int32) σ37 => (q_sf σ37 12 v0 0 (.int t36)).bind fun σ38 => (q_gi (q_gf σ38 12 v0 0)).bind fun x39 => if x39 = (1 : Int32) then (some ((0 : Int32), σ38)) else (if v3 = (0 : Int32) then ((q_gi (q_gf σ38 12 v0 28)).bind fun x42 => some (x42, σ38)) else ((q_gi (q_gf σ38 12 v0 29)).bind fun x43 => some (x43, σ38)))))
set_option maxRecDepth 100000 in
theorem b_Mo_known {fo : Option Nat} {d : Nat} (hd : 6 ≤ d + 1) {o : q_O} {σ' : q_H} (v0 : Nat) (v1 : Int32) (v2 : Int32) (v3 : Int32) (σ : q_H) : q_J (fun (r : Int32) (σ1 : q_H) => o = .inl (some (.int r)) ∧ σ' = σ1) (f_Mo_known v0 v1 v2 v3 σ) (q_G (q_rf fo) d m_Mo_known o σ' 0 [some (.ref v0), some (.int v1), some (.int v2), some (.int v3)] [] σ) := by
  unfold f_Mo_known
  refine J_bind fun w1 hw1 => ?_
  refine J_cl fun x3 σ2 hσ2 => ?_
  refine q_J.step (fun g => j_aload_n rfl rfl (j_aload_n rfl rfl (j_iload_n rfl rfl (j_iload_n rfl rfl (j_v1 [.ref v0, .int v1, .int v2] [.ref v0] rfl rfl rfl rfl rfl rfl hw1 (Or.inl rfl) (t_Mo_isLine (by omega) hσ2) (g)))))) ?_
  refine J_ite (fun h4 => ?_) (fun h4 => ?_)
  · refine J_bind fun σ5 hσ5 => ?_
    refine J_bind fun x6 hx6 => ?_
    refine q_J.step (fun g => j_if_t rfl (cc_eq_t h4) (j_iconst (1 : Int32) rfl k32_1 (j_putf rfl rfl rfl rfl hσ5 (j_aload_n rfl rfl (j_gfi rfl hx6 (j_iconst (1 : Int32) rfl k32_1 (g))))))) ?_
    refine J_ite (fun h7 => ?_) (fun h7 => ?_)
    · exact J_some (fun h => j_icmp_f rfl (cc_ne_f h7) (j_iconst (0 : Int32) rfl k32_0 (j_iret rfl rfl h)))
    refine J_bind fun w8 hw8 => ?_
    refine J_cl fun _ σ9 hσ9 => ?_
    refine J_bind fun x11 hx11 => ?_
    refine J_bind fun x12 hx12 => ?_
    refine q_J.step (fun g => j_icmp_t rfl (cc_ne_t h7) (j_aload_n rfl rfl (j_iload_n rfl rfl (j_iload_n rfl rfl (j_v0 [.ref v0, .int v1, .int v2] [] rfl rfl rfl rfl rfl rfl hw8 (Or.inl rfl) (t_Mo_knows (by omega) hσ9) (j_aload_n rfl rfl (j_aload_n rfl rfl (j_gfi rfl hx11 (j_aload_n rfl rfl (j_gfi rfl hx12 (g))))))))))) ?_
    refine J_sq (fun (t14 : Int32) (σ15 : q_H) => q_G (q_rf fo) d m_Mo_known o σ' 60 [some (.ref v0), none, none, some (.int v3)] [.int t14, .ref v0] σ15) ?_ (fun t14 σ15 => ?_)
    · refine J_ite (fun h13 => ?_) (fun h13 => ?_)
      · exact J_some (fun h => j_icmp_f rfl (cc_le_f h13) (j_iconst (1 : Int32) rfl k32_1 (j_goto rfl (j_weak (l := [some (.ref v0), none, none, some (.int v3)]) (And.intro (Or.inr rfl) (And.intro (Or.inl rfl) (And.intro (Or.inl rfl) (And.intro (Or.inr rfl) True.intro)))) (h)))))
      exact J_some (fun h => j_icmp_t rfl (cc_le_t h13) (j_iconst (0 : Int32) rfl k32_0 (j_weak (l := [some (.ref v0), none, none, some (.int v3)]) (And.intro (Or.inr rfl) (And.intro (Or.inl rfl) (And.intro (Or.inl rfl) (And.intro (Or.inr rfl) True.intro)))) (h))))
    refine J_bind fun σ16 hσ16 => ?_
    refine J_bind fun x17 hx17 => ?_
    refine q_J.step (fun g => j_putf rfl rfl rfl rfl hσ16 (j_aload_n rfl rfl (j_gfi rfl hx17 (j_iconst (1 : Int32) rfl k32_1 (g))))) ?_
    refine J_ite (fun h18 => ?_) (fun h18 => ?_)
    · exact J_some (fun h => j_icmp_f rfl (cc_ne_f h18) (j_iconst (0 : Int32) rfl k32_0 (j_goto rfl (j_iret rfl rfl h))))
    refine q_J.step (fun g => j_icmp_t rfl (cc_ne_t h18) (j_iload_n rfl rfl (g))) ?_
    refine J_ite (fun h19 => ?_) (fun h19 => ?_)
    · refine J_bind fun x20 hx20 => ?_
      exact J_some (fun h => j_if_f rfl (cc_ne_f h19) (j_aload_n rfl rfl (j_gfi rfl hx20 (j_goto rfl (j_iret rfl rfl h)))))
    refine J_bind fun x21 hx21 => ?_
    exact J_some (fun h => j_if_t rfl (cc_ne_t h19) (j_aload_n rfl rfl (j_gfi rfl hx21 (j_iret rfl rfl h))))
  refine J_cl fun x23 σ22 hσ22 => ?_
  refine q_J.step (fun g => j_if_f rfl (cc_eq_f h4) (j_iload_n rfl rfl (j_iconst (0 : Int32) rfl k32_0 (j_iconst (1 : Int32) rfl k32_1 (j_s1 [.int v3, .int (0 : Int32), .int (1 : Int32)] [.ref v0] rfl rfl rfl rfl rfl (t_Mo_within (by omega) hσ22) (g)))))) ?_
  refine J_sq (fun (t25 : Int32) (σ26 : q_H) => q_G (q_rf fo) d m_Mo_known o σ' 24 [some (.ref v0), some (.int v1), some (.int v2), some (.int v3)] [.int t25, .ref v0] σ26) ?_ (fun t25 σ26 => ?_)
  · refine J_ite (fun h24 => ?_) (fun h24 => ?_)
    · exact J_some (fun h => j_if_t rfl (cc_eq_t h24) (j_iconst (1 : Int32) rfl k32_1 (h)))
    exact J_some (fun h => j_if_f rfl (cc_eq_f h24) (j_iconst (0 : Int32) rfl k32_0 (j_goto rfl (h))))
  refine J_bind fun σ27 hσ27 => ?_
  refine J_bind fun x28 hx28 => ?_
  refine q_J.step (fun g => j_putf rfl rfl rfl rfl hσ27 (j_aload_n rfl rfl (j_gfi rfl hx28 (j_iconst (1 : Int32) rfl k32_1 (g))))) ?_
  refine J_ite (fun h29 => ?_) (fun h29 => ?_)
  · exact J_some (fun h => j_icmp_f rfl (cc_ne_f h29) (j_iconst (0 : Int32) rfl k32_0 (j_iret rfl rfl h)))
  refine J_bind fun w30 hw30 => ?_
  refine J_cl fun _ σ31 hσ31 => ?_
  refine J_bind fun x33 hx33 => ?_
  refine J_bind fun x34 hx34 => ?_
  refine q_J.step (fun g => j_icmp_t rfl (cc_ne_t h29) (j_aload_n rfl rfl (j_iload_n rfl rfl (j_iload_n rfl rfl (j_v0 [.ref v0, .int v1, .int v2] [] rfl rfl rfl rfl rfl rfl hw30 (Or.inl rfl) (t_Mo_knows (by omega) hσ31) (j_aload_n rfl rfl (j_aload_n rfl rfl (j_gfi rfl hx33 (j_aload_n rfl rfl (j_gfi rfl hx34 (g))))))))))) ?_
  refine J_sq (fun (t36 : Int32) (σ37 : q_H) => q_G (q_rf fo) d m_Mo_known o σ' 60 [some (.ref v0), none, none, some (.int v3)] [.int t36, .ref v0] σ37) ?_ (fun t36 σ37 => ?_)
  · refine J_ite (fun h35 => ?_) (fun h35 => ?_)
    · exact J_some (fun h => j_icmp_f rfl (cc_le_f h35) (j_iconst (1 : Int32) rfl k32_1 (j_goto rfl (j_weak (l := [some (.ref v0), none, none, some (.int v3)]) (And.intro (Or.inr rfl) (And.intro (Or.inl rfl) (And.intro (Or.inl rfl) (And.intro (Or.inr rfl) True.intro)))) (h)))))
    exact J_some (fun h => j_icmp_t rfl (cc_le_t h35) (j_iconst (0 : Int32) rfl k32_0 (j_weak (l := [some (.ref v0), none, none, some (.int v3)]) (And.intro (Or.inr rfl) (And.intro (Or.inl rfl) (And.intro (Or.inl rfl) (And.intro (Or.inr rfl) True.intro)))) (h))))
  refine J_bind fun σ38 hσ38 => ?_
  refine J_bind fun x39 hx39 => ?_
  refine q_J.step (fun g => j_putf rfl rfl rfl rfl hσ38 (j_aload_n rfl rfl (j_gfi rfl hx39 (j_iconst (1 : Int32) rfl k32_1 (g))))) ?_
  refine J_ite (fun h40 => ?_) (fun h40 => ?_)
  · exact J_some (fun h => j_icmp_f rfl (cc_ne_f h40) (j_iconst (0 : Int32) rfl k32_0 (j_goto rfl (j_iret rfl rfl h))))
  refine q_J.step (fun g => j_icmp_t rfl (cc_ne_t h40) (j_iload_n rfl rfl (g))) ?_
  refine J_ite (fun h41 => ?_) (fun h41 => ?_)
  · refine J_bind fun x42 hx42 => ?_
    exact J_some (fun h => j_if_f rfl (cc_ne_f h41) (j_aload_n rfl rfl (j_gfi rfl hx42 (j_goto rfl (j_iret rfl rfl h)))))
  refine J_bind fun x43 hx43 => ?_
  exact J_some (fun h => j_if_t rfl (cc_ne_t h41) (j_aload_n rfl rfl (j_gfi rfl hx43 (j_iret rfl rfl h))))
theorem t_Mo_known {fo : Option Nat} {d : Nat} (hd : 6 ≤ d) {v0 : Nat} {v1 : Int32} {v2 : Int32} {v3 : Int32} {σ σ1 : q_H} {r : Int32} (h : f_Mo_known v0 v1 v2 v3 σ = some (r, σ1)) : q_Rel (q_rf fo) q_Ms d 226 [.ref v0, .int v1, .int v2, .int v3] σ (.inl (some (.int r))) σ1 := by
  obtain ⟨d, rfl⟩ : ∃ d1, d = d1 + 1 := ⟨d - 1, by omega⟩
  exact q_Rel.of rfl rfl (b_Mo_known hd _ _ _ _ σ _ _ h ⟨rfl, rfl⟩)

def f_Mo_leftOf (v0 : Nat) (v1 : Int32) (v2 : Int32) (v3 : Int32) (σ : q_H) : Option ((Int32) × q_H) := (q_ob σ 12 v0).bind fun w1 => q_sq (f_Mo_hasParent v0 v1 (((12 : Int32) * v2) + v3) σ) fun x3 σ2 => if x3 = (0 : Int32) then (some ((0 : Int32), σ2)) else ((q_ob σ2 12 v0).bind fun w5 => q_sq (f_Mo_oneOf v0 v2 v3 v1 σ2) fun x7 σ6 => if x7 < (0 : Int32) then ((q_ob σ6 12 v0).bind fun w9 => q_sq (f_Mo_knows v0 v2 v3 σ6) fun (_ : Unit) σ10 => (q_gi (q_gf σ10 12 v0 28)).bind fun x12 => (q_gi (q_gf σ10 12 v0 29)).bind fun x13 => if x13 < x12 then (some ((0 : Int32), σ10)) else ((q_gi (q_gf σ10 12 v0 28)).bind fun x15 => (q_gr (q_gf σ10 12 v0 5)).bind fun x16 => (q_gi (q_ga σ10 20 x16 v1)).bind fun x17 => if x15 < ((14 : Int32) * x17) then ((q_gi (q_gf σ10 12 v0 29)).bind fun x19 => (q_gr (q_gf σ10 12 v0 5)).bind fun x20 => (q_gi (q_ga σ10 20 x20 v1)).bind fun x21 => if x19 < ((14 : Int32) * x21) then (some ((2 : Int32), σ10)) else (some ((1 : Int32), σ10))) else (some ((0 : Int32), σ10)))) else (some ((0 : Int32), σ6)))
set_option maxRecDepth 100000 in
theorem b_Mo_leftOf {fo : Option Nat} {d : Nat} (hd : 6 ≤ d + 1) {o : q_O} {σ' : q_H} (v0 : Nat) (v1 : Int32) (v2 : Int32) (v3 : Int32) (σ : q_H) : q_J (fun (r : Int32) (σ1 : q_H) => o = .inl (some (.int r)) ∧ σ' = σ1) (f_Mo_leftOf v0 v1 v2 v3 σ) (q_G (q_rf fo) d m_Mo_leftOf o σ' 0 [some (.ref v0), some (.int v1), some (.int v2), some (.int v3)] [] σ) := by
  unfold f_Mo_leftOf
  refine J_bind fun w1 hw1 => ?_
  refine J_cl fun x3 σ2 hσ2 => ?_
  refine q_J.step (fun g => j_aload_n rfl rfl (j_iload_n rfl rfl (j_bipush (12 : Int32) rfl kb_12 (j_iload_n rfl rfl (j_imul rfl (j_iload_n rfl rfl (j_iadd rfl (j_v1 [.ref v0, .int v1, .int (((12 : Int32) * v2) + v3)] [] rfl rfl rfl rfl rfl rfl hw1 (Or.inl rfl) (t_Mo_hasParent (by omega) hσ2) (g))))))))) ?_
  refine J_ite (fun h4 => ?_) (fun h4 => ?_)
  · exact J_some (fun h => j_if_t rfl (cc_eq_t h4) (j_iconst (0 : Int32) rfl k32_0 (j_iret rfl rfl h)))
  refine J_bind fun w5 hw5 => ?_
  refine J_cl fun x7 σ6 hσ6 => ?_
  refine q_J.step (fun g => j_if_f rfl (cc_eq_f h4) (j_aload_n rfl rfl (j_iload_n rfl rfl (j_iload_n rfl rfl (j_iload_n rfl rfl (j_v1 [.ref v0, .int v2, .int v3, .int v1] [] rfl rfl rfl rfl rfl rfl hw5 (Or.inl rfl) (t_Mo_oneOf (by omega) hσ6) (g))))))) ?_
  refine J_ite (fun h8 => ?_) (fun h8 => ?_)
  · refine J_bind fun w9 hw9 => ?_
    refine J_cl fun _ σ10 hσ10 => ?_
    refine J_bind fun x12 hx12 => ?_
    refine J_bind fun x13 hx13 => ?_
    refine q_J.step (fun g => j_if_t rfl (cc_lt_t h8) (j_aload_n rfl rfl (j_iload_n rfl rfl (j_iload_n rfl rfl (j_v0 [.ref v0, .int v2, .int v3] [] rfl rfl rfl rfl rfl rfl hw9 (Or.inl rfl) (t_Mo_knows (by omega) hσ10) (j_aload_n rfl rfl (j_gfi rfl hx12 (j_aload_n rfl rfl (j_gfi rfl hx13 (g)))))))))) ?_
    refine J_ite (fun h14 => ?_) (fun h14 => ?_)
    · exact J_some (fun h => j_icmp_t rfl (cc_gt_t h14) (j_iconst (0 : Int32) rfl k32_0 (j_iret rfl rfl h)))
    refine J_bind fun x15 hx15 => ?_
    refine J_bind fun x16 hx16 => ?_
    refine J_bind fun x17 hx17 => ?_
    refine q_J.step (fun g => j_icmp_f rfl (cc_gt_f h14) (j_aload_n rfl rfl (j_gfi rfl hx15 (j_bipush (14 : Int32) rfl kb_14 (j_aload_n rfl rfl (j_gfr rfl hx16 (j_iload_n rfl rfl (j_ial rfl hx17 (j_imul rfl (g)))))))))) ?_
    refine J_ite (fun h18 => ?_) (fun h18 => ?_)
    · refine J_bind fun x19 hx19 => ?_
      refine J_bind fun x20 hx20 => ?_
      refine J_bind fun x21 hx21 => ?_
      refine q_J.step (fun g => j_icmp_t rfl (cc_lt_t h18) (j_aload_n rfl rfl (j_gfi rfl hx19 (j_bipush (14 : Int32) rfl kb_14 (j_aload_n rfl rfl (j_gfr rfl hx20 (j_iload_n rfl rfl (j_ial rfl hx21 (j_imul rfl (g)))))))))) ?_
      refine J_ite (fun h22 => ?_) (fun h22 => ?_)
      · exact J_some (fun h => j_icmp_f rfl (cc_ge_f h22) (j_iconst (2 : Int32) rfl k32_2 (j_goto rfl (j_iret rfl rfl h))))
      exact J_some (fun h => j_icmp_t rfl (cc_ge_t h22) (j_iconst (1 : Int32) rfl k32_1 (j_iret rfl rfl h)))
    exact J_some (fun h => j_icmp_f rfl (cc_lt_f h18) (j_iconst (0 : Int32) rfl k32_0 (j_iret rfl rfl h)))
  exact J_some (fun h => j_if_f rfl (cc_lt_f h8) (j_iconst (0 : Int32) rfl k32_0 (j_iret rfl rfl h)))
theorem t_Mo_leftOf {fo : Option Nat} {d : Nat} (hd : 6 ≤ d) {v0 : Nat} {v1 : Int32} {v2 : Int32} {v3 : Int32} {σ σ1 : q_H} {r : Int32} (h : f_Mo_leftOf v0 v1 v2 v3 σ = some (r, σ1)) : q_Rel (q_rf fo) q_Ms d 231 [.ref v0, .int v1, .int v2, .int v3] σ (.inl (some (.int r))) σ1 := by
  obtain ⟨d, rfl⟩ : ∃ d1, d = d1 + 1 := ⟨d - 1, by omega⟩
  exact q_Rel.of rfl rfl (b_Mo_leftOf hd _ _ _ _ σ _ _ h ⟨rfl, rfl⟩)

def f_Mo_taken (v0 : Nat) (v1 : Int32) (v2 : Int32) (σ : q_H) : Option ((Int32) × q_H) := (q_sf σ 12 v0 0 (.int (0 : Int32))).bind fun σ1 => (q_ob σ1 12 v0).bind fun w2 => q_sq (f_Mo_isWife v0 v1 v2 σ1) fun x4 σ3 => if x4 = (0 : Int32) then (some ((-1 : Int32), σ3)) else ((q_ob σ3 12 v0).bind fun w6 => q_sq (f_Mo_sortOf v0 v1 v2 σ3) fun x8 σ7 => if x8 = (0 : Int32) then ((q_ob σ7 12 v0).bind fun w10 => q_sq (f_Mo_takenOf v0 v1 v2 σ7) fun x12 σ11 => some (x12, σ11)) else ((q_ob σ7 12 v0).bind fun w13 => q_sq (f_Mo_sortOf v0 v1 v2 σ7) fun x15 σ14 => if x15 = (2 : Int32) then ((q_ob σ14 12 v0).bind fun w17 => q_sq (f_Mo_takenOf v0 v1 v2 σ14) fun x19 σ18 => some (x19, σ18)) else (some ((-1 : Int32), σ14))))
set_option maxRecDepth 100000 in
theorem b_Mo_taken {fo : Option Nat} {d : Nat} (hd : 6 ≤ d + 1) {o : q_O} {σ' : q_H} (v0 : Nat) (v1 : Int32) (v2 : Int32) (σ : q_H) : q_J (fun (r : Int32) (σ1 : q_H) => o = .inl (some (.int r)) ∧ σ' = σ1) (f_Mo_taken v0 v1 v2 σ) (q_G (q_rf fo) d m_Mo_taken o σ' 0 [some (.ref v0), some (.int v1), some (.int v2)] [] σ) := by
  unfold f_Mo_taken
  refine J_bind fun σ1 hσ1 => ?_
  refine J_bind fun w2 hw2 => ?_
  refine J_cl fun x4 σ3 hσ3 => ?_
  refine q_J.step (fun g => j_aload_n rfl rfl (j_iconst (0 : Int32) rfl k32_0 (j_putf rfl rfl rfl rfl hσ1 (j_aload_n rfl rfl (j_iload_n rfl rfl (j_iload_n rfl rfl (j_v1 [.ref v0, .int v1, .int v2] [] rfl rfl rfl rfl rfl rfl hw2 (Or.inl rfl) (t_Mo_isWife (by omega) hσ3) (g)))))))) ?_
  refine J_ite (fun h5 => ?_) (fun h5 => ?_)
  · exact J_some (fun h => j_if_t rfl (cc_eq_t h5) (j_iconst (-1 : Int32) rfl k32_m1 (j_iret rfl rfl h)))
  refine J_bind fun w6 hw6 => ?_
  refine J_cl fun x8 σ7 hσ7 => ?_
  refine q_J.step (fun g => j_if_f rfl (cc_eq_f h5) (j_aload_n rfl rfl (j_iload_n rfl rfl (j_iload_n rfl rfl (j_v1 [.ref v0, .int v1, .int v2] [] rfl rfl rfl rfl rfl rfl hw6 (Or.inl rfl) (t_Mo_sortOf (by omega) hσ7) (g)))))) ?_
  refine J_ite (fun h9 => ?_) (fun h9 => ?_)
  · refine J_bind fun w10 hw10 => ?_
    refine J_cl fun x12 σ11 hσ11 => ?_
    exact J_some (fun h => j_if_t rfl (cc_eq_t h9) (j_aload_n rfl rfl (j_iload_n rfl rfl (j_iload_n rfl rfl (j_v1 [.ref v0, .int v1, .int v2] [] rfl rfl rfl rfl rfl rfl hw10 (Or.inl rfl) (t_Mo_takenOf (by omega) hσ11) (j_goto rfl (j_iret rfl rfl h)))))))
  refine J_bind fun w13 hw13 => ?_
  refine J_cl fun x15 σ14 hσ14 => ?_
  refine q_J.step (fun g => j_if_f rfl (cc_eq_f h9) (j_aload_n rfl rfl (j_iload_n rfl rfl (j_iload_n rfl rfl (j_v1 [.ref v0, .int v1, .int v2] [] rfl rfl rfl rfl rfl rfl hw13 (Or.inl rfl) (t_Mo_sortOf (by omega) hσ14) (j_iconst (2 : Int32) rfl k32_2 (g))))))) ?_
  refine J_ite (fun h16 => ?_) (fun h16 => ?_)
  · refine J_bind fun w17 hw17 => ?_
    refine J_cl fun x19 σ18 hσ18 => ?_
    exact J_some (fun h => j_icmp_f rfl (cc_ne_f h16) (j_aload_n rfl rfl (j_iload_n rfl rfl (j_iload_n rfl rfl (j_v1 [.ref v0, .int v1, .int v2] [] rfl rfl rfl rfl rfl rfl hw17 (Or.inl rfl) (t_Mo_takenOf (by omega) hσ18) (j_goto rfl (j_iret rfl rfl h)))))))
  exact J_some (fun h => j_icmp_t rfl (cc_ne_t h16) (j_iconst (-1 : Int32) rfl k32_m1 (j_iret rfl rfl h)))
theorem t_Mo_taken {fo : Option Nat} {d : Nat} (hd : 6 ≤ d) {v0 : Nat} {v1 : Int32} {v2 : Int32} {σ σ1 : q_H} {r : Int32} (h : f_Mo_taken v0 v1 v2 σ = some (r, σ1)) : q_Rel (q_rf fo) q_Ms d 246 [.ref v0, .int v1, .int v2] σ (.inl (some (.int r))) σ1 := by
  obtain ⟨d, rfl⟩ : ∃ d1, d = d1 + 1 := ⟨d - 1, by omega⟩
  exact q_Rel.of rfl rfl (b_Mo_taken hd _ _ _ σ _ _ h ⟨rfl, rfl⟩)

def f_Mo_lets (v0 : Nat) (v1 : Int32) (v2 : Int32) (v3 : Int32) (σ : q_H) : Option ((Int32) × q_H) := (q_sf σ 12 v0 0 (.int (0 : Int32))).bind fun σ1 => q_sq (f_Mo_isTable v1 σ1) fun x3 σ2 => if x3 = (0 : Int32) then (some ((-1 : Int32), σ2)) else ((q_ob σ2 12 v0).bind fun w5 => q_sq (f_Mo_isWife v0 v2 v3 σ2) fun x7 σ6 => if x7 = (0 : Int32) then (some ((-1 : Int32), σ6)) else ((q_ob σ6 12 v0).bind fun w9 => q_sq (f_Mo_isLet v0 v1 v2 v3 σ6) fun x11 σ10 => if x11 = (0 : Int32) then (some ((0 : Int32), σ10)) else (some ((1 : Int32), σ10))))
set_option maxRecDepth 100000 in
theorem b_Mo_lets {fo : Option Nat} {d : Nat} (hd : 6 ≤ d + 1) {o : q_O} {σ' : q_H} (v0 : Nat) (v1 : Int32) (v2 : Int32) (v3 : Int32) (σ : q_H) : q_J (fun (r : Int32) (σ1 : q_H) => o = .inl (some (.int r)) ∧ σ' = σ1) (f_Mo_lets v0 v1 v2 v3 σ) (q_G (q_rf fo) d m_Mo_lets o σ' 0 [some (.ref v0), some (.int v1), some (.int v2), some (.int v3)] [] σ) := by
  unfold f_Mo_lets
  refine J_bind fun σ1 hσ1 => ?_
  refine J_cl fun x3 σ2 hσ2 => ?_
  refine q_J.step (fun g => j_aload_n rfl rfl (j_iconst (0 : Int32) rfl k32_0 (j_putf rfl rfl rfl rfl hσ1 (j_iload_n rfl rfl (j_s1 [.int v1] [] rfl rfl rfl rfl rfl (t_Mo_isTable (by omega) hσ2) (g)))))) ?_
  refine J_ite (fun h4 => ?_) (fun h4 => ?_)
  · exact J_some (fun h => j_if_t rfl (cc_eq_t h4) (j_iconst (-1 : Int32) rfl k32_m1 (j_iret rfl rfl h)))
  refine J_bind fun w5 hw5 => ?_
  refine J_cl fun x7 σ6 hσ6 => ?_
  refine q_J.step (fun g => j_if_f rfl (cc_eq_f h4) (j_aload_n rfl rfl (j_iload_n rfl rfl (j_iload_n rfl rfl (j_v1 [.ref v0, .int v2, .int v3] [] rfl rfl rfl rfl rfl rfl hw5 (Or.inl rfl) (t_Mo_isWife (by omega) hσ6) (g)))))) ?_
  refine J_ite (fun h8 => ?_) (fun h8 => ?_)
  · exact J_some (fun h => j_if_t rfl (cc_eq_t h8) (j_iconst (-1 : Int32) rfl k32_m1 (j_iret rfl rfl h)))
  refine J_bind fun w9 hw9 => ?_
  refine J_cl fun x11 σ10 hσ10 => ?_
  refine q_J.step (fun g => j_if_f rfl (cc_eq_f h8) (j_aload_n rfl rfl (j_iload_n rfl rfl (j_iload_n rfl rfl (j_iload_n rfl rfl (j_v1 [.ref v0, .int v1, .int v2, .int v3] [] rfl rfl rfl rfl rfl rfl hw9 (Or.inl rfl) (t_Mo_isLet (by omega) hσ10) (g))))))) ?_
  refine J_ite (fun h12 => ?_) (fun h12 => ?_)
  · exact J_some (fun h => j_if_t rfl (cc_eq_t h12) (j_iconst (0 : Int32) rfl k32_0 (j_goto rfl (j_iret rfl rfl h))))
  exact J_some (fun h => j_if_f rfl (cc_eq_f h12) (j_iconst (1 : Int32) rfl k32_1 (j_goto rfl (j_iret rfl rfl h))))
theorem t_Mo_lets {fo : Option Nat} {d : Nat} (hd : 6 ≤ d) {v0 : Nat} {v1 : Int32} {v2 : Int32} {v3 : Int32} {σ σ1 : q_H} {r : Int32} (h : f_Mo_lets v0 v1 v2 v3 σ = some (r, σ1)) : q_Rel (q_rf fo) q_Ms d 253 [.ref v0, .int v1, .int v2, .int v3] σ (.inl (some (.int r))) σ1 := by
  obtain ⟨d, rfl⟩ : ∃ d1, d = d1 + 1 := ⟨d - 1, by omega⟩
  exact q_Rel.of rfl rfl (b_Mo_lets hd _ _ _ _ σ _ _ h ⟨rfl, rfl⟩)

def f_Mo_failsOf_L15 (v0 : Nat) (v1 : Int32) (v2 : Int32) (v4 : Int32) : Nat → Int32 → Int32 → q_H → Option ((Int32) × q_H)
  | 0, _, _, _ => none
  | n + 1, v3, v5, σ => (q_ob σ 12 v0).bind fun w2 => q_sq (f_Mo_isThere v0 v4 σ) fun x4 σ3 => if x4 = (0 : Int32) then (some (v3, σ3)) else ((q_gr (q_gf σ3 12 v0 7)).bind fun x6 => (q_gi (q_ga σ3 20 x6 v4)).bind fun x7 => if v5 < x7 then ((q_ob σ3 12 v0).bind fun w9 => q_sq (f_Mo_isWife v0 v4 v5 σ3) fun x11 σ10 => if x11 = (0 : Int32) then (f_Mo_failsOf_L15 v0 v1 v2 v4 n v3 (v5 + (1 : Int32)) σ10) else ((q_ob σ10 12 v0).bind fun w13 => q_sq (f_Mo_isLet v0 v1 v4 v5 σ10) fun x15 σ14 => if x15 = (0 : Int32) then (if v2 = v1 then (f_Mo_failsOf_L15 v0 v1 v2 v4 n (v3 + (1 : Int32)) (v5 + (1 : Int32)) σ14) else ((q_ob σ14 12 v0).bind fun w18 => q_sq (f_Mo_isLet v0 v2 v4 v5 σ14) fun x20 σ19 => if x20 = (0 : Int32) then (f_Mo_failsOf_L15 v0 v1 v2 v4 n (v3 + (0 : Int32)) (v5 + (1 : Int32)) σ19) else (f_Mo_failsOf_L15 v0 v1 v2 v4 n (v3 + (1 : Int32)) (v5 + (1 : Int32)) σ19))) else (f_Mo_failsOf_L15 v0 v1 v2 v4 n (v3 + (0 : Int32)) (v5 + (1 : Int32)) σ14))) else (some (v3, σ3)))
set_option maxRecDepth 100000 in
theorem l_Mo_failsOf_L15 {fo : Option Nat} {d : Nat} (hd : 6 ≤ d + 1) {o : q_O} {σ' : q_H} {E : (Int32) → q_H → Prop} (v0 : Nat) (v1 : Int32) (v2 : Int32) (v4 : Int32) (hX : ∀ (t : Int32) σ1, E (t) σ1 → q_G (q_rf fo) d m_Mo_failsOf o σ' 90 [some (.ref v0), some (.int v1), some (.int v2), some (.int t), some (.int v4), none] [] σ1)  : ∀ (n : Nat) (v3 : Int32) (v5 : Int32) (σ : q_H), q_J E (f_Mo_failsOf_L15 v0 v1 v2 v4 n v3 v5 σ) (q_G (q_rf fo) d m_Mo_failsOf o σ' 15 [some (.ref v0), some (.int v1), some (.int v2), some (.int v3), some (.int v4), some (.int v5)] [] σ)
  | 0, v3, v5, σ => J_none
  | n + 1, v3, v5, σ => by
    unfold f_Mo_failsOf_L15
    refine J_bind fun w2 hw2 => ?_
    refine J_cl fun x4 σ3 hσ3 => ?_
    refine q_J.step (fun g => j_aload_n rfl rfl (j_iload rfl rfl (j_v1 [.ref v0, .int v4] [] rfl rfl rfl rfl rfl rfl hw2 (Or.inl rfl) (t_Mo_isThere (by omega) hσ3) (g)))) ?_
    refine J_ite (fun h5 => ?_) (fun h5 => ?_)
    · exact J_some (fun h => j_if_t rfl (cc_eq_t h5) (j_weak (l := [some (.ref v0), some (.int v1), some (.int v2), some (.int v3), some (.int v4), none]) (And.intro (Or.inr rfl) (And.intro (Or.inr rfl) (And.intro (Or.inr rfl) (And.intro (Or.inr rfl) (And.intro (Or.inr rfl) (And.intro (Or.inl rfl) True.intro)))))) (hX _ _ h)))
    refine J_bind fun x6 hx6 => ?_
    refine J_bind fun x7 hx7 => ?_
    refine q_J.step (fun g => j_if_f rfl (cc_eq_f h5) (j_iload rfl rfl (j_aload_n rfl rfl (j_gfr rfl hx6 (j_iload rfl rfl (j_ial rfl hx7 (g))))))) ?_
    refine J_ite (fun h8 => ?_) (fun h8 => ?_)
    · refine J_bind fun w9 hw9 => ?_
      refine J_cl fun x11 σ10 hσ10 => ?_
      refine q_J.step (fun g => j_icmp_f rfl (cc_ge_f h8) (j_aload_n rfl rfl (j_iload rfl rfl (j_iload rfl rfl (j_v1 [.ref v0, .int v4, .int v5] [] rfl rfl rfl rfl rfl rfl hw9 (Or.inl rfl) (t_Mo_isWife (by omega) hσ10) (g)))))) ?_
      refine J_ite (fun h12 => ?_) (fun h12 => ?_)
      · exact q_J.step (fun g => j_if_t rfl (cc_eq_t h12) (j_iinc [some (.ref v0), some (.int v1), some (.int v2), some (.int v3), some (.int v4), some (.int (v5 + (1 : Int32)))] (v5 + (1 : Int32)) rfl rfl (by rw [k32_1]) (Or.inr rfl) rfl (j_goto rfl (g)))) (l_Mo_failsOf_L15 hd v0 v1 v2 v4 hX n v3 (v5 + (1 : Int32)) σ10)
      refine J_bind fun w13 hw13 => ?_
      refine J_cl fun x15 σ14 hσ14 => ?_
      refine q_J.step (fun g => j_if_f rfl (cc_eq_f h12) (j_iload_n rfl rfl (j_aload_n rfl rfl (j_iload_n rfl rfl (j_iload rfl rfl (j_iload rfl rfl (j_v1 [.ref v0, .int v1, .int v4, .int v5] [.int v3] rfl rfl rfl rfl rfl rfl hw13 (Or.inl rfl) (t_Mo_isLet (by omega) hσ14) (g)))))))) ?_
      refine J_ite (fun h16 => ?_) (fun h16 => ?_)
      · refine q_J.step (fun g => j_if_f rfl (cc_ne_f h16) (j_iload_n rfl rfl (j_iload_n rfl rfl (g)))) ?_
        refine J_ite (fun h17 => ?_) (fun h17 => ?_)
        · exact q_J.step (fun g => j_icmp_t rfl (cc_eq_t h17) (j_iconst (1 : Int32) rfl k32_1 (j_goto rfl (j_iadd rfl (j_istore_n [some (.ref v0), some (.int v1), some (.int v2), some (.int (v3 + (1 : Int32))), some (.int v4), some (.int v5)] rfl rfl (Or.inr rfl) rfl (j_iinc [some (.ref v0), some (.int v1), some (.int v2), some (.int (v3 + (1 : Int32))), some (.int v4), some (.int (v5 + (1 : Int32)))] (v5 + (1 : Int32)) rfl rfl (by rw [k32_1]) (Or.inr rfl) rfl (j_goto rfl (g)))))))) (l_Mo_failsOf_L15 hd v0 v1 v2 v4 hX n (v3 + (1 : Int32)) (v5 + (1 : Int32)) σ14)
        refine J_bind fun w18 hw18 => ?_
        refine J_cl fun x20 σ19 hσ19 => ?_
        refine q_J.step (fun g => j_icmp_f rfl (cc_eq_f h17) (j_aload_n rfl rfl (j_iload_n rfl rfl (j_iload rfl rfl (j_iload rfl rfl (j_v1 [.ref v0, .int v2, .int v4, .int v5] [.int v3] rfl rfl rfl rfl rfl rfl hw18 (Or.inl rfl) (t_Mo_isLet (by omega) hσ19) (g))))))) ?_
        refine J_ite (fun h21 => ?_) (fun h21 => ?_)
        · exact q_J.step (fun g => j_if_t rfl (cc_eq_t h21) (j_iconst (0 : Int32) rfl k32_0 (j_iadd rfl (j_istore_n [some (.ref v0), some (.int v1), some (.int v2), some (.int (v3 + (0 : Int32))), some (.int v4), some (.int v5)] rfl rfl (Or.inr rfl) rfl (j_iinc [some (.ref v0), some (.int v1), some (.int v2), some (.int (v3 + (0 : Int32))), some (.int v4), some (.int (v5 + (1 : Int32)))] (v5 + (1 : Int32)) rfl rfl (by rw [k32_1]) (Or.inr rfl) rfl (j_goto rfl (g))))))) (l_Mo_failsOf_L15 hd v0 v1 v2 v4 hX n (v3 + (0 : Int32)) (v5 + (1 : Int32)) σ19)
        exact q_J.step (fun g => j_if_f rfl (cc_eq_f h21) (j_iconst (1 : Int32) rfl k32_1 (j_goto rfl (j_iadd rfl (j_istore_n [some (.ref v0), some (.int v1), some (.int v2), some (.int (v3 + (1 : Int32))), some (.int v4), some (.int v5)] rfl rfl (Or.inr rfl) rfl (j_iinc [some (.ref v0), some (.int v1), some (.int v2), some (.int (v3 + (1 : Int32))), some (.int v4), some (.int (v5 + (1 : Int32)))] (v5 + (1 : Int32)) rfl rfl (by rw [k32_1]) (Or.inr rfl) rfl (j_goto rfl (g)))))))) (l_Mo_failsOf_L15 hd v0 v1 v2 v4 hX n (v3 + (1 : Int32)) (v5 + (1 : Int32)) σ19)
      exact q_J.step (fun g => j_if_t rfl (cc_ne_t h16) (j_iconst (0 : Int32) rfl k32_0 (j_iadd rfl (j_istore_n [some (.ref v0), some (.int v1), some (.int v2), some (.int (v3 + (0 : Int32))), some (.int v4), some (.int v5)] rfl rfl (Or.inr rfl) rfl (j_iinc [some (.ref v0), some (.int v1), some (.int v2), some (.int (v3 + (0 : Int32))), some (.int v4), some (.int (v5 + (1 : Int32)))] (v5 + (1 : Int32)) rfl rfl (by rw [k32_1]) (Or.inr rfl) rfl (j_goto rfl (g))))))) (l_Mo_failsOf_L15 hd v0 v1 v2 v4 hX n (v3 + (0 : Int32)) (v5 + (1 : Int32)) σ14)
    exact J_some (fun h => j_icmp_t rfl (cc_ge_t h8) (j_weak (l := [some (.ref v0), some (.int v1), some (.int v2), some (.int v3), some (.int v4), none]) (And.intro (Or.inr rfl) (And.intro (Or.inr rfl) (And.intro (Or.inr rfl) (And.intro (Or.inr rfl) (And.intro (Or.inr rfl) (And.intro (Or.inl rfl) True.intro)))))) (hX _ _ h)))

def f_Mo_failsOf_L5 (v0 : Nat) (v1 : Int32) (v2 : Int32) : Nat → Int32 → Int32 → q_H → Option ((Int32) × q_H)
  | 0, _, _, _ => none
  | n + 1, v3, v4, σ => if v4 < (24 : Int32) then (q_sq (f_Mo_failsOf_L15 v0 v1 v2 v4 q_FU v3 (0 : Int32) σ) fun (t22 : Int32) σ23 => f_Mo_failsOf_L5 v0 v1 v2 n t22 (v4 + (1 : Int32)) σ23) else (some (v3, σ))
set_option maxRecDepth 100000 in
theorem l_Mo_failsOf_L5 {fo : Option Nat} {d : Nat} (hd : 6 ≤ d + 1) {o : q_O} {σ' : q_H} {E : (Int32) → q_H → Prop} (v0 : Nat) (v1 : Int32) (v2 : Int32) (hX : ∀ (t : Int32) σ1, E (t) σ1 → q_G (q_rf fo) d m_Mo_failsOf o σ' 96 [none, none, none, some (.int t), none, none] [] σ1)  : ∀ (n : Nat) (v3 : Int32) (v4 : Int32) (σ : q_H), q_J E (f_Mo_failsOf_L5 v0 v1 v2 n v3 v4 σ) (q_G (q_rf fo) d m_Mo_failsOf o σ' 5 [some (.ref v0), some (.int v1), some (.int v2), some (.int v3), some (.int v4), none] [] σ)
  | 0, v3, v4, σ => J_none
  | n + 1, v3, v4, σ => by
    unfold f_Mo_failsOf_L5
    refine q_J.step (fun g => j_iload rfl rfl (j_bipush (24 : Int32) rfl kb_24 (g))) ?_
    refine J_ite (fun h1 => ?_) (fun h1 => ?_)
    · refine J_sq (fun (t22 : Int32) (σ23 : q_H) => q_G (q_rf fo) d m_Mo_failsOf o σ' 90 [some (.ref v0), some (.int v1), some (.int v2), some (.int t22), some (.int v4), none] [] σ23) (q_J.step (fun g => j_icmp_f rfl (cc_ge_f h1) (j_iconst (0 : Int32) rfl k32_0 (j_istore [some (.ref v0), some (.int v1), some (.int v2), some (.int v3), some (.int v4), some (.int (0 : Int32))] rfl rfl (Or.inr rfl) rfl (g)))) (l_Mo_failsOf_L15 hd v0 v1 v2 v4 (fun _ _ h => h) q_FU v3 (0 : Int32) σ)) (fun t22 σ23 => ?_)
      exact q_J.step (fun g => j_iinc [some (.ref v0), some (.int v1), some (.int v2), some (.int t22), some (.int (v4 + (1 : Int32))), none] (v4 + (1 : Int32)) rfl rfl (by rw [k32_1]) (Or.inr rfl) rfl (j_goto rfl (g))) (l_Mo_failsOf_L5 hd v0 v1 v2 hX n t22 (v4 + (1 : Int32)) σ23)
    exact J_some (fun h => j_icmp_t rfl (cc_ge_t h1) (j_weak (l := [none, none, none, some (.int v3), none, none]) (And.intro (Or.inl rfl) (And.intro (Or.inl rfl) (And.intro (Or.inl rfl) (And.intro (Or.inr rfl) (And.intro (Or.inl rfl) (And.intro (Or.inr rfl) True.intro)))))) (hX _ _ h)))

def f_Mo_failsOf (v0 : Nat) (v1 : Int32) (v2 : Int32) (σ : q_H) : Option ((Int32) × q_H) := q_sq (f_Mo_failsOf_L5 v0 v1 v2 q_FU (0 : Int32) (0 : Int32) σ) fun (t24 : Int32) σ25 => some (t24, σ25)
set_option maxRecDepth 100000 in
theorem b_Mo_failsOf {fo : Option Nat} {d : Nat} (hd : 6 ≤ d + 1) {o : q_O} {σ' : q_H} (v0 : Nat) (v1 : Int32) (v2 : Int32) (σ : q_H) : q_J (fun (r : Int32) (σ1 : q_H) => o = .inl (some (.int r)) ∧ σ' = σ1) (f_Mo_failsOf v0 v1 v2 σ) (q_G (q_rf fo) d m_Mo_failsOf o σ' 0 [some (.ref v0), some (.int v1), some (.int v2), none, none, none] [] σ) := by
  unfold f_Mo_failsOf
  refine J_sq (fun (t24 : Int32) (σ25 : q_H) => q_G (q_rf fo) d m_Mo_failsOf o σ' 96 [none, none, none, some (.int t24), none, none] [] σ25) (q_J.step (fun g => j_iconst (0 : Int32) rfl k32_0 (j_istore_n [some (.ref v0), some (.int v1), some (.int v2), some (.int (0 : Int32)), none, none] rfl rfl (Or.inr rfl) rfl (j_iconst (0 : Int32) rfl k32_0 (j_istore [some (.ref v0), some (.int v1), some (.int v2), some (.int (0 : Int32)), some (.int (0 : Int32)), none] rfl rfl (Or.inr rfl) rfl (g))))) (l_Mo_failsOf_L5 hd v0 v1 v2 (fun _ _ h => h) q_FU (0 : Int32) (0 : Int32) σ)) (fun t24 σ25 => ?_)
  exact J_some (fun h => j_iload_n rfl rfl (j_iret rfl rfl h))
theorem t_Mo_failsOf {fo : Option Nat} {d : Nat} (hd : 6 ≤ d) {v0 : Nat} {v1 : Int32} {v2 : Int32} {σ σ1 : q_H} {r : Int32} (h : f_Mo_failsOf v0 v1 v2 σ = some (r, σ1)) : q_Rel (q_rf fo) q_Ms d 260 [.ref v0, .int v1, .int v2] σ (.inl (some (.int r))) σ1 := by
  obtain ⟨d, rfl⟩ : ∃ d1, d = d1 + 1 := ⟨d - 1, by omega⟩
  exact q_Rel.of rfl rfl (b_Mo_failsOf hd _ _ _ σ _ _ h ⟨rfl, rfl⟩)

def f_Mo_piecesOf_L8 (v0 : Nat) : Nat → Int32 → Int32 → q_H → Option ((Int32) × q_H)
  | 0, _, _, _ => none
  | n + 1, v1, v2, σ => if v2 < (24 : Int32) then ((q_ob σ 12 v0).bind fun w5 => q_sq (f_Mo_isThere v0 v2 σ) fun x7 σ6 => if x7 = (0 : Int32) then (f_Mo_piecesOf_L8 v0 n (v1 + (0 : Int32)) (v2 + (1 : Int32)) σ6) else ((q_gr (q_gf σ6 12 v0 27)).bind fun x9 => (q_gi (q_ga σ6 20 x9 v2)).bind fun x10 => if x10 = v2 then (f_Mo_piecesOf_L8 v0 n (v1 + (1 : Int32)) (v2 + (1 : Int32)) σ6) else (f_Mo_piecesOf_L8 v0 n (v1 + (0 : Int32)) (v2 + (1 : Int32)) σ6))) else (some (v1, σ))
set_option maxRecDepth 100000 in
theorem l_Mo_piecesOf_L8 {fo : Option Nat} {d : Nat} (hd : 6 ≤ d + 1) {o : q_O} {σ' : q_H} {E : (Int32) → q_H → Prop} (v0 : Nat) (hX : ∀ (t : Int32) σ1, E (t) σ1 → q_G (q_rf fo) d m_Mo_piecesOf o σ' 46 [none, some (.int t), none] [] σ1)  : ∀ (n : Nat) (v1 : Int32) (v2 : Int32) (σ : q_H), q_J E (f_Mo_piecesOf_L8 v0 n v1 v2 σ) (q_G (q_rf fo) d m_Mo_piecesOf o σ' 8 [some (.ref v0), some (.int v1), some (.int v2)] [] σ)
  | 0, v1, v2, σ => J_none
  | n + 1, v1, v2, σ => by
    unfold f_Mo_piecesOf_L8
    refine q_J.step (fun g => j_iload_n rfl rfl (j_bipush (24 : Int32) rfl kb_24 (g))) ?_
    refine J_ite (fun h4 => ?_) (fun h4 => ?_)
    · refine J_bind fun w5 hw5 => ?_
      refine J_cl fun x7 σ6 hσ6 => ?_
      refine q_J.step (fun g => j_icmp_f rfl (cc_ge_f h4) (j_iload_n rfl rfl (j_aload_n rfl rfl (j_iload_n rfl rfl (j_v1 [.ref v0, .int v2] [.int v1] rfl rfl rfl rfl rfl rfl hw5 (Or.inl rfl) (t_Mo_isThere (by omega) hσ6) (g)))))) ?_
      refine J_ite (fun h8 => ?_) (fun h8 => ?_)
      · exact q_J.step (fun g => j_if_t rfl (cc_eq_t h8) (j_iconst (0 : Int32) rfl k32_0 (j_iadd rfl (j_istore_n [some (.ref v0), some (.int (v1 + (0 : Int32))), some (.int v2)] rfl rfl (Or.inr rfl) rfl (j_iinc [some (.ref v0), some (.int (v1 + (0 : Int32))), some (.int (v2 + (1 : Int32)))] (v2 + (1 : Int32)) rfl rfl (by rw [k32_1]) (Or.inr rfl) rfl (j_goto rfl (g))))))) (l_Mo_piecesOf_L8 hd v0 hX n (v1 + (0 : Int32)) (v2 + (1 : Int32)) σ6)
      refine J_bind fun x9 hx9 => ?_
      refine J_bind fun x10 hx10 => ?_
      refine q_J.step (fun g => j_if_f rfl (cc_eq_f h8) (j_aload_n rfl rfl (j_gfr rfl hx9 (j_iload_n rfl rfl (j_ial rfl hx10 (j_iload_n rfl rfl (g))))))) ?_
      refine J_ite (fun h11 => ?_) (fun h11 => ?_)
      · exact q_J.step (fun g => j_icmp_f rfl (cc_ne_f h11) (j_iconst (1 : Int32) rfl k32_1 (j_goto rfl (j_iadd rfl (j_istore_n [some (.ref v0), some (.int (v1 + (1 : Int32))), some (.int v2)] rfl rfl (Or.inr rfl) rfl (j_iinc [some (.ref v0), some (.int (v1 + (1 : Int32))), some (.int (v2 + (1 : Int32)))] (v2 + (1 : Int32)) rfl rfl (by rw [k32_1]) (Or.inr rfl) rfl (j_goto rfl (g)))))))) (l_Mo_piecesOf_L8 hd v0 hX n (v1 + (1 : Int32)) (v2 + (1 : Int32)) σ6)
      exact q_J.step (fun g => j_icmp_t rfl (cc_ne_t h11) (j_iconst (0 : Int32) rfl k32_0 (j_iadd rfl (j_istore_n [some (.ref v0), some (.int (v1 + (0 : Int32))), some (.int v2)] rfl rfl (Or.inr rfl) rfl (j_iinc [some (.ref v0), some (.int (v1 + (0 : Int32))), some (.int (v2 + (1 : Int32)))] (v2 + (1 : Int32)) rfl rfl (by rw [k32_1]) (Or.inr rfl) rfl (j_goto rfl (g))))))) (l_Mo_piecesOf_L8 hd v0 hX n (v1 + (0 : Int32)) (v2 + (1 : Int32)) σ6)
    exact J_some (fun h => j_icmp_t rfl (cc_ge_t h4) (j_weak (l := [none, some (.int v1), none]) (And.intro (Or.inl rfl) (And.intro (Or.inr rfl) (And.intro (Or.inl rfl) True.intro))) (hX _ _ h)))

def f_Mo_piecesOf (v0 : Nat) (σ : q_H) : Option ((Int32) × q_H) := (q_ob σ 12 v0).bind fun w1 => q_sq (f_Mo_houses v0 σ) fun (_ : Unit) σ2 => q_sq (f_Mo_piecesOf_L8 v0 q_FU (0 : Int32) (0 : Int32) σ2) fun (t12 : Int32) σ13 => some (t12, σ13)
set_option maxRecDepth 100000 in
theorem b_Mo_piecesOf {fo : Option Nat} {d : Nat} (hd : 6 ≤ d + 1) {o : q_O} {σ' : q_H} (v0 : Nat) (σ : q_H) : q_J (fun (r : Int32) (σ1 : q_H) => o = .inl (some (.int r)) ∧ σ' = σ1) (f_Mo_piecesOf v0 σ) (q_G (q_rf fo) d m_Mo_piecesOf o σ' 0 [some (.ref v0), none, none] [] σ) := by
  unfold f_Mo_piecesOf
  refine J_bind fun w1 hw1 => ?_
  refine J_cl fun _ σ2 hσ2 => ?_
  refine J_sq (fun (t12 : Int32) (σ13 : q_H) => q_G (q_rf fo) d m_Mo_piecesOf o σ' 46 [none, some (.int t12), none] [] σ13) (q_J.step (fun g => j_aload_n rfl rfl (j_v0 [.ref v0] [] rfl rfl rfl rfl rfl rfl hw1 (Or.inl rfl) (t_Mo_houses (by omega) hσ2) (j_iconst (0 : Int32) rfl k32_0 (j_istore_n [some (.ref v0), some (.int (0 : Int32)), none] rfl rfl (Or.inr rfl) rfl (j_iconst (0 : Int32) rfl k32_0 (j_istore_n [some (.ref v0), some (.int (0 : Int32)), some (.int (0 : Int32))] rfl rfl (Or.inr rfl) rfl (g))))))) (l_Mo_piecesOf_L8 hd v0 (fun _ _ h => h) q_FU (0 : Int32) (0 : Int32) σ2)) (fun t12 σ13 => ?_)
  exact J_some (fun h => j_iload_n rfl rfl (j_iret rfl rfl h))
theorem t_Mo_piecesOf {fo : Option Nat} {d : Nat} (hd : 6 ≤ d) {v0 : Nat} {σ σ1 : q_H} {r : Int32} (h : f_Mo_piecesOf v0 σ = some (r, σ1)) : q_Rel (q_rf fo) q_Ms d 279 [.ref v0] σ (.inl (some (.int r))) σ1 := by
  obtain ⟨d, rfl⟩ : ∃ d1, d = d1 + 1 := ⟨d - 1, by omega⟩
  exact q_Rel.of rfl rfl (b_Mo_piecesOf hd _ σ _ _ h ⟨rfl, rfl⟩)

def f_Mo_ties_L12 (v0 : Nat) (v2 : Int32) : Nat → Int32 → Int32 → q_H → Option ((Int32) × q_H)
  | 0, _, _, _ => none
  | n + 1, v1, v3, σ => (q_ob σ 12 v0).bind fun w2 => q_sq (f_Mo_isThere v0 v2 σ) fun x4 σ3 => if x4 = (0 : Int32) then (some (v1, σ3)) else ((q_gr (q_gf σ3 12 v0 7)).bind fun x6 => (q_gi (q_ga σ3 20 x6 v2)).bind fun x7 => if v3 < x7 then ((q_ob σ3 12 v0).bind fun w9 => q_sq (f_Mo_isWife v0 v2 v3 σ3) fun x11 σ10 => if x11 = (0 : Int32) then (f_Mo_ties_L12 v0 v2 n v1 (v3 + (1 : Int32)) σ10) else ((q_gr (q_gf σ10 12 v0 12)).bind fun x13 => (q_gi (q_ga σ10 20 x13 (((12 : Int32) * v2) + v3))).bind fun x14 => (q_gr (q_gf σ10 12 v0 12)).bind fun x15 => (q_ob σ10 12 v0).bind fun w16 => q_sq (f_Mo_husband v0 v2 v3 σ10) fun x18 σ17 => (q_gi (q_ga σ17 20 x15 x18)).bind fun x19 => if (0 : Int32) < ((x14 ||| x19) &&& (12 : Int32)) then (f_Mo_ties_L12 v0 v2 n (v1 + (1 : Int32)) (v3 + (1 : Int32)) σ17) else (f_Mo_ties_L12 v0 v2 n (v1 + (0 : Int32)) (v3 + (1 : Int32)) σ17))) else (some (v1, σ3)))
set_option maxRecDepth 100000 in
theorem l_Mo_ties_L12 {fo : Option Nat} {d : Nat} (hd : 6 ≤ d + 1) {o : q_O} {σ' : q_H} {E : (Int32) → q_H → Prop} (v0 : Nat) (v2 : Int32) (hX : ∀ (t : Int32) σ1, E (t) σ1 → q_G (q_rf fo) d m_Mo_ties o σ' 82 [some (.ref v0), some (.int t), some (.int v2), none] [] σ1)  : ∀ (n : Nat) (v1 : Int32) (v3 : Int32) (σ : q_H), q_J E (f_Mo_ties_L12 v0 v2 n v1 v3 σ) (q_G (q_rf fo) d m_Mo_ties o σ' 12 [some (.ref v0), some (.int v1), some (.int v2), some (.int v3)] [] σ)
  | 0, v1, v3, σ => J_none
  | n + 1, v1, v3, σ => by
    unfold f_Mo_ties_L12
    refine J_bind fun w2 hw2 => ?_
    refine J_cl fun x4 σ3 hσ3 => ?_
    refine q_J.step (fun g => j_aload_n rfl rfl (j_iload_n rfl rfl (j_v1 [.ref v0, .int v2] [] rfl rfl rfl rfl rfl rfl hw2 (Or.inl rfl) (t_Mo_isThere (by omega) hσ3) (g)))) ?_
    refine J_ite (fun h5 => ?_) (fun h5 => ?_)
    · exact J_some (fun h => j_if_t rfl (cc_eq_t h5) (j_weak (l := [some (.ref v0), some (.int v1), some (.int v2), none]) (And.intro (Or.inr rfl) (And.intro (Or.inr rfl) (And.intro (Or.inr rfl) (And.intro (Or.inl rfl) True.intro)))) (hX _ _ h)))
    refine J_bind fun x6 hx6 => ?_
    refine J_bind fun x7 hx7 => ?_
    refine q_J.step (fun g => j_if_f rfl (cc_eq_f h5) (j_iload_n rfl rfl (j_aload_n rfl rfl (j_gfr rfl hx6 (j_iload_n rfl rfl (j_ial rfl hx7 (g))))))) ?_
    refine J_ite (fun h8 => ?_) (fun h8 => ?_)
    · refine J_bind fun w9 hw9 => ?_
      refine J_cl fun x11 σ10 hσ10 => ?_
      refine q_J.step (fun g => j_icmp_f rfl (cc_ge_f h8) (j_aload_n rfl rfl (j_iload_n rfl rfl (j_iload_n rfl rfl (j_v1 [.ref v0, .int v2, .int v3] [] rfl rfl rfl rfl rfl rfl hw9 (Or.inl rfl) (t_Mo_isWife (by omega) hσ10) (g)))))) ?_
      refine J_ite (fun h12 => ?_) (fun h12 => ?_)
      · exact q_J.step (fun g => j_if_t rfl (cc_eq_t h12) (j_iinc [some (.ref v0), some (.int v1), some (.int v2), some (.int (v3 + (1 : Int32)))] (v3 + (1 : Int32)) rfl rfl (by rw [k32_1]) (Or.inr rfl) rfl (j_goto rfl (g)))) (l_Mo_ties_L12 hd v0 v2 hX n v1 (v3 + (1 : Int32)) σ10)
      refine J_bind fun x13 hx13 => ?_
      refine J_bind fun x14 hx14 => ?_
      refine J_bind fun x15 hx15 => ?_
      refine J_bind fun w16 hw16 => ?_
      refine J_cl fun x18 σ17 hσ17 => ?_
      refine J_bind fun x19 hx19 => ?_
      refine q_J.step (fun g => j_if_f rfl (cc_eq_f h12) (j_iload_n rfl rfl (j_aload_n rfl rfl (j_gfr rfl hx13 (j_bipush (12 : Int32) rfl kb_12 (j_iload_n rfl rfl (j_imul rfl (j_iload_n rfl rfl (j_iadd rfl (j_ial rfl hx14 (j_aload_n rfl rfl (j_gfr rfl hx15 (j_aload_n rfl rfl (j_iload_n rfl rfl (g))))))))))))))) ?_
      refine q_J.step (fun g => j_iload_n rfl rfl (j_v1 [.ref v0, .int v2, .int v3] [.ref x15, .int x14, .int v1] rfl rfl rfl rfl rfl rfl hw16 (Or.inl rfl) (t_Mo_husband (by omega) hσ17) (j_ial rfl hx19 (j_ior rfl (j_bipush (12 : Int32) rfl kb_12 (j_iand rfl (g))))))) ?_
      refine J_ite (fun h20 => ?_) (fun h20 => ?_)
      · exact q_J.step (fun g => j_if_f rfl (cc_le_f h20) (j_iconst (1 : Int32) rfl k32_1 (j_goto rfl (j_iadd rfl (j_istore_n [some (.ref v0), some (.int (v1 + (1 : Int32))), some (.int v2), some (.int v3)] rfl rfl (Or.inr rfl) rfl (j_iinc [some (.ref v0), some (.int (v1 + (1 : Int32))), some (.int v2), some (.int (v3 + (1 : Int32)))] (v3 + (1 : Int32)) rfl rfl (by rw [k32_1]) (Or.inr rfl) rfl (j_goto rfl (g)))))))) (l_Mo_ties_L12 hd v0 v2 hX n (v1 + (1 : Int32)) (v3 + (1 : Int32)) σ17)
      exact q_J.step (fun g => j_if_t rfl (cc_le_t h20) (j_iconst (0 : Int32) rfl k32_0 (j_iadd rfl (j_istore_n [some (.ref v0), some (.int (v1 + (0 : Int32))), some (.int v2), some (.int v3)] rfl rfl (Or.inr rfl) rfl (j_iinc [some (.ref v0), some (.int (v1 + (0 : Int32))), some (.int v2), some (.int (v3 + (1 : Int32)))] (v3 + (1 : Int32)) rfl rfl (by rw [k32_1]) (Or.inr rfl) rfl (j_goto rfl (g))))))) (l_Mo_ties_L12 hd v0 v2 hX n (v1 + (0 : Int32)) (v3 + (1 : Int32)) σ17)
    exact J_some (fun h => j_icmp_t rfl (cc_ge_t h8) (j_weak (l := [some (.ref v0), some (.int v1), some (.int v2), none]) (And.intro (Or.inr rfl) (And.intro (Or.inr rfl) (And.intro (Or.inr rfl) (And.intro (Or.inl rfl) True.intro)))) (hX _ _ h)))

def f_Mo_ties_L4 (v0 : Nat) : Nat → Int32 → Int32 → q_H → Option ((Int32) × q_H)
  | 0, _, _, _ => none
  | n + 1, v1, v2, σ => if v2 < (24 : Int32) then (q_sq (f_Mo_ties_L12 v0 v2 q_FU v1 (0 : Int32) σ) fun (t21 : Int32) σ22 => f_Mo_ties_L4 v0 n t21 (v2 + (1 : Int32)) σ22) else (some (v1, σ))
set_option maxRecDepth 100000 in
theorem l_Mo_ties_L4 {fo : Option Nat} {d : Nat} (hd : 6 ≤ d + 1) {o : q_O} {σ' : q_H} {E : (Int32) → q_H → Prop} (v0 : Nat) (hX : ∀ (t : Int32) σ1, E (t) σ1 → q_G (q_rf fo) d m_Mo_ties o σ' 88 [none, some (.int t), none, none] [] σ1)  : ∀ (n : Nat) (v1 : Int32) (v2 : Int32) (σ : q_H), q_J E (f_Mo_ties_L4 v0 n v1 v2 σ) (q_G (q_rf fo) d m_Mo_ties o σ' 4 [some (.ref v0), some (.int v1), some (.int v2), none] [] σ)
  | 0, v1, v2, σ => J_none
  | n + 1, v1, v2, σ => by
    unfold f_Mo_ties_L4
    refine q_J.step (fun g => j_iload_n rfl rfl (j_bipush (24 : Int32) rfl kb_24 (g))) ?_
    refine J_ite (fun h1 => ?_) (fun h1 => ?_)
    · refine J_sq (fun (t21 : Int32) (σ22 : q_H) => q_G (q_rf fo) d m_Mo_ties o σ' 82 [some (.ref v0), some (.int t21), some (.int v2), none] [] σ22) (q_J.step (fun g => j_icmp_f rfl (cc_ge_f h1) (j_iconst (0 : Int32) rfl k32_0 (j_istore_n [some (.ref v0), some (.int v1), some (.int v2), some (.int (0 : Int32))] rfl rfl (Or.inr rfl) rfl (g)))) (l_Mo_ties_L12 hd v0 v2 (fun _ _ h => h) q_FU v1 (0 : Int32) σ)) (fun t21 σ22 => ?_)
      exact q_J.step (fun g => j_iinc [some (.ref v0), some (.int t21), some (.int (v2 + (1 : Int32))), none] (v2 + (1 : Int32)) rfl rfl (by rw [k32_1]) (Or.inr rfl) rfl (j_goto rfl (g))) (l_Mo_ties_L4 hd v0 hX n t21 (v2 + (1 : Int32)) σ22)
    exact J_some (fun h => j_icmp_t rfl (cc_ge_t h1) (j_weak (l := [none, some (.int v1), none, none]) (And.intro (Or.inl rfl) (And.intro (Or.inr rfl) (And.intro (Or.inl rfl) (And.intro (Or.inr rfl) True.intro)))) (hX _ _ h)))

def f_Mo_ties (v0 : Nat) (σ : q_H) : Option ((Int32) × q_H) := q_sq (f_Mo_ties_L4 v0 q_FU (0 : Int32) (0 : Int32) σ) fun (t23 : Int32) σ24 => some (t23, σ24)
set_option maxRecDepth 100000 in
theorem b_Mo_ties {fo : Option Nat} {d : Nat} (hd : 6 ≤ d + 1) {o : q_O} {σ' : q_H} (v0 : Nat) (σ : q_H) : q_J (fun (r : Int32) (σ1 : q_H) => o = .inl (some (.int r)) ∧ σ' = σ1) (f_Mo_ties v0 σ) (q_G (q_rf fo) d m_Mo_ties o σ' 0 [some (.ref v0), none, none, none] [] σ) := by
  unfold f_Mo_ties
  refine J_sq (fun (t23 : Int32) (σ24 : q_H) => q_G (q_rf fo) d m_Mo_ties o σ' 88 [none, some (.int t23), none, none] [] σ24) (q_J.step (fun g => j_iconst (0 : Int32) rfl k32_0 (j_istore_n [some (.ref v0), some (.int (0 : Int32)), none, none] rfl rfl (Or.inr rfl) rfl (j_iconst (0 : Int32) rfl k32_0 (j_istore_n [some (.ref v0), some (.int (0 : Int32)), some (.int (0 : Int32)), none] rfl rfl (Or.inr rfl) rfl (g))))) (l_Mo_ties_L4 hd v0 (fun _ _ h => h) q_FU (0 : Int32) (0 : Int32) σ)) (fun t23 σ24 => ?_)
  exact J_some (fun h => j_iload_n rfl rfl (j_iret rfl rfl h))
theorem t_Mo_ties {fo : Option Nat} {d : Nat} (hd : 6 ≤ d) {v0 : Nat} {σ σ1 : q_H} {r : Int32} (h : f_Mo_ties v0 σ = some (r, σ1)) : q_Rel (q_rf fo) q_Ms d 280 [.ref v0] σ (.inl (some (.int r))) σ1 := by
  obtain ⟨d, rfl⟩ : ∃ d1, d = d1 + 1 := ⟨d - 1, by omega⟩
  exact q_Rel.of rfl rfl (b_Mo_ties hd _ σ _ _ h ⟨rfl, rfl⟩)

def f_Mo_marriages (v0 : Nat) (v1 : Int32) (v2 : Int32) (v3 : Int32) (σ : q_H) : Option ((Int32) × q_H) := (q_sf σ 12 v0 0 (.int (0 : Int32))).bind fun σ1 => (q_ob σ1 12 v0).bind fun w2 => q_sq (f_Mo_isScope v0 v1 v2 σ1) fun x4 σ3 => if x4 = (0 : Int32) then (some ((-1 : Int32), σ3)) else (q_sq (f_Mo_within v3 (-1 : Int32) (4 : Int32) σ3) fun x7 σ6 => if x7 = (0 : Int32) then (some ((-1 : Int32), σ6)) else (q_sq (if v3 < (0 : Int32) then (some ((31 : Int32), σ6)) else (some (((1 : Int32) <<< (v3 &&& 31)), σ6))) fun (t10 : Int32) σ11 => (q_ob σ11 12 v0).bind fun w12 => q_sq (f_Mo_countOf v0 v1 v2 (-1 : Int32) t10 (2 : Int32) σ11) fun x14 σ13 => some (x14, σ13)))
set_option maxRecDepth 100000 in
theorem b_Mo_marriages {fo : Option Nat} {d : Nat} (hd : 7 ≤ d + 1) {o : q_O} {σ' : q_H} (v0 : Nat) (v1 : Int32) (v2 : Int32) (v3 : Int32) (σ : q_H) : q_J (fun (r : Int32) (σ1 : q_H) => o = .inl (some (.int r)) ∧ σ' = σ1) (f_Mo_marriages v0 v1 v2 v3 σ) (q_G (q_rf fo) d m_Mo_marriages o σ' 0 [some (.ref v0), some (.int v1), some (.int v2), some (.int v3)] [] σ) := by
  unfold f_Mo_marriages
  refine J_bind fun σ1 hσ1 => ?_
  refine J_bind fun w2 hw2 => ?_
  refine J_cl fun x4 σ3 hσ3 => ?_
  refine q_J.step (fun g => j_aload_n rfl rfl (j_iconst (0 : Int32) rfl k32_0 (j_putf rfl rfl rfl rfl hσ1 (j_aload_n rfl rfl (j_iload_n rfl rfl (j_iload_n rfl rfl (j_v1 [.ref v0, .int v1, .int v2] [] rfl rfl rfl rfl rfl rfl hw2 (Or.inl rfl) (t_Mo_isScope (by omega) hσ3) (g)))))))) ?_
  refine J_ite (fun h5 => ?_) (fun h5 => ?_)
  · exact J_some (fun h => j_if_t rfl (cc_eq_t h5) (j_iconst (-1 : Int32) rfl k32_m1 (j_iret rfl rfl h)))
  refine J_cl fun x7 σ6 hσ6 => ?_
  refine q_J.step (fun g => j_if_f rfl (cc_eq_f h5) (j_iload_n rfl rfl (j_iconst (-1 : Int32) rfl k32_m1 (j_iconst (4 : Int32) rfl k32_4 (j_s1 [.int v3, .int (-1 : Int32), .int (4 : Int32)] [] rfl rfl rfl rfl rfl (t_Mo_within (by omega) hσ6) (g)))))) ?_
  refine J_ite (fun h8 => ?_) (fun h8 => ?_)
  · exact J_some (fun h => j_if_t rfl (cc_eq_t h8) (j_iconst (-1 : Int32) rfl k32_m1 (j_iret rfl rfl h)))
  refine q_J.step (fun g => j_if_f rfl (cc_eq_f h8) (j_aload_n rfl rfl (j_iload_n rfl rfl (j_iload_n rfl rfl (j_iconst (-1 : Int32) rfl k32_m1 (j_iload_n rfl rfl (g))))))) ?_
  refine J_sq (fun (t10 : Int32) (σ11 : q_H) => q_G (q_rf fo) d m_Mo_marriages o σ' 39 [none, none, none, none] [.int t10, .int (-1 : Int32), .int v2, .int v1, .ref v0] σ11) ?_ (fun t10 σ11 => ?_)
  · refine J_ite (fun h9 => ?_) (fun h9 => ?_)
    · exact J_some (fun h => j_if_f rfl (cc_ge_f h9) (j_bipush (31 : Int32) rfl kb_31 (j_goto rfl (j_weak (l := [none, none, none, none]) (And.intro (Or.inl rfl) (And.intro (Or.inl rfl) (And.intro (Or.inl rfl) (And.intro (Or.inl rfl) True.intro)))) (h)))))
    exact J_some (fun h => j_if_t rfl (cc_ge_t h9) (j_iconst (1 : Int32) rfl k32_1 (j_iload_n rfl rfl (j_ishl rfl (j_weak (l := [none, none, none, none]) (And.intro (Or.inl rfl) (And.intro (Or.inl rfl) (And.intro (Or.inl rfl) (And.intro (Or.inl rfl) True.intro)))) (h))))))
  refine J_bind fun w12 hw12 => ?_
  refine J_cl fun x14 σ13 hσ13 => ?_
  exact J_some (fun h => j_iconst (2 : Int32) rfl k32_2 (j_v1 [.ref v0, .int v1, .int v2, .int (-1 : Int32), .int t10, .int (2 : Int32)] [] rfl rfl rfl rfl rfl rfl hw12 (Or.inl rfl) (t_Mo_countOf (by omega) hσ13) (j_goto rfl (j_iret rfl rfl h))))
theorem t_Mo_marriages {fo : Option Nat} {d : Nat} (hd : 7 ≤ d) {v0 : Nat} {v1 : Int32} {v2 : Int32} {v3 : Int32} {σ σ1 : q_H} {r : Int32} (h : f_Mo_marriages v0 v1 v2 v3 σ = some (r, σ1)) : q_Rel (q_rf fo) q_Ms d 203 [.ref v0, .int v1, .int v2, .int v3] σ (.inl (some (.int r))) σ1 := by
  obtain ⟨d, rfl⟩ : ∃ d1, d = d1 + 1 := ⟨d - 1, by omega⟩
  exact q_Rel.of rfl rfl (b_Mo_marriages hd _ _ _ _ σ _ _ h ⟨rfl, rfl⟩)

def f_Mo_share (v0 : Nat) (v1 : Int32) (v2 : Int32) (v3 : Int32) (v4 : Int32) (σ : q_H) : Option ((Int32) × q_H) := (q_sf σ 12 v0 0 (.int (0 : Int32))).bind fun σ1 => (q_ob σ1 12 v0).bind fun w2 => q_sq (f_Mo_isScope v0 v1 v2 σ1) fun x4 σ3 => if x4 = (0 : Int32) then (some ((-1 : Int32), σ3)) else (q_sq (f_Mo_within v3 (0 : Int32) (2 : Int32) σ3) fun x7 σ6 => if x7 = (0 : Int32) then (some ((-1 : Int32), σ6)) else (q_sq (f_Mo_within v4 (0 : Int32) (1 : Int32) σ6) fun x10 σ9 => if x10 = (0 : Int32) then (some ((-1 : Int32), σ9)) else ((q_ob σ9 12 v0).bind fun w12 => q_sq (f_Mo_countOf v0 v1 v2 (-1 : Int32) (31 : Int32) (2 : Int32) σ9) fun x14 σ13 => if x14 = (0 : Int32) then (some ((-1 : Int32), σ13)) else (q_sq (f_Mo_sorts v3 σ13) fun x17 σ16 => (q_ob σ16 12 v0).bind fun w18 => q_sq (f_Mo_countOf v0 v1 v2 (-1 : Int32) x17 (2 : Int32) σ16) fun x20 σ19 => q_sq (f_Mo_lowest x20.toInt64 x14.toInt64 v4 σ19) fun x22 σ21 => some (x22.toInt32, σ21)))))
set_option maxRecDepth 100000 in
theorem b_Mo_share {fo : Option Nat} {d : Nat} (hd : 7 ≤ d + 1) {o : q_O} {σ' : q_H} (v0 : Nat) (v1 : Int32) (v2 : Int32) (v3 : Int32) (v4 : Int32) (σ : q_H) : q_J (fun (r : Int32) (σ1 : q_H) => o = .inl (some (.int r)) ∧ σ' = σ1) (f_Mo_share v0 v1 v2 v3 v4 σ) (q_G (q_rf fo) d m_Mo_share o σ' 0 [some (.ref v0), some (.int v1), some (.int v2), some (.int v3), some (.int v4), none] [] σ) := by
  unfold f_Mo_share
  refine J_bind fun σ1 hσ1 => ?_
  refine J_bind fun w2 hw2 => ?_
  refine J_cl fun x4 σ3 hσ3 => ?_
  refine q_J.step (fun g => j_aload_n rfl rfl (j_iconst (0 : Int32) rfl k32_0 (j_putf rfl rfl rfl rfl hσ1 (j_aload_n rfl rfl (j_iload_n rfl rfl (j_iload_n rfl rfl (j_v1 [.ref v0, .int v1, .int v2] [] rfl rfl rfl rfl rfl rfl hw2 (Or.inl rfl) (t_Mo_isScope (by omega) hσ3) (g)))))))) ?_
  refine J_ite (fun h5 => ?_) (fun h5 => ?_)
  · exact J_some (fun h => j_if_t rfl (cc_eq_t h5) (j_iconst (-1 : Int32) rfl k32_m1 (j_iret rfl rfl h)))
  refine J_cl fun x7 σ6 hσ6 => ?_
  refine q_J.step (fun g => j_if_f rfl (cc_eq_f h5) (j_iload_n rfl rfl (j_iconst (0 : Int32) rfl k32_0 (j_iconst (2 : Int32) rfl k32_2 (j_s1 [.int v3, .int (0 : Int32), .int (2 : Int32)] [] rfl rfl rfl rfl rfl (t_Mo_within (by omega) hσ6) (g)))))) ?_
  refine J_ite (fun h8 => ?_) (fun h8 => ?_)
  · exact J_some (fun h => j_if_t rfl (cc_eq_t h8) (j_iconst (-1 : Int32) rfl k32_m1 (j_iret rfl rfl h)))
  refine J_cl fun x10 σ9 hσ9 => ?_
  refine q_J.step (fun g => j_if_f rfl (cc_eq_f h8) (j_iload rfl rfl (j_iconst (0 : Int32) rfl k32_0 (j_iconst (1 : Int32) rfl k32_1 (j_s1 [.int v4, .int (0 : Int32), .int (1 : Int32)] [] rfl rfl rfl rfl rfl (t_Mo_within (by omega) hσ9) (g)))))) ?_
  refine J_ite (fun h11 => ?_) (fun h11 => ?_)
  · exact J_some (fun h => j_if_f rfl (cc_ne_f h11) (j_iconst (-1 : Int32) rfl k32_m1 (j_iret rfl rfl h)))
  refine J_bind fun w12 hw12 => ?_
  refine J_cl fun x14 σ13 hσ13 => ?_
  refine q_J.step (fun g => j_if_t rfl (cc_ne_t h11) (j_aload_n rfl rfl (j_iload_n rfl rfl (j_iload_n rfl rfl (j_iconst (-1 : Int32) rfl k32_m1 (j_bipush (31 : Int32) rfl kb_31 (j_iconst (2 : Int32) rfl k32_2 (j_v1 [.ref v0, .int v1, .int v2, .int (-1 : Int32), .int (31 : Int32), .int (2 : Int32)] [] rfl rfl rfl rfl rfl rfl hw12 (Or.inl rfl) (t_Mo_countOf (by omega) hσ13) (j_istore [some (.ref v0), some (.int v1), some (.int v2), some (.int v3), some (.int v4), some (.int x14)] rfl rfl (Or.inr rfl) rfl (j_iload rfl rfl (g))))))))))) ?_
  refine J_ite (fun h15 => ?_) (fun h15 => ?_)
  · exact J_some (fun h => j_if_f rfl (cc_ne_f h15) (j_iconst (-1 : Int32) rfl k32_m1 (j_goto rfl (j_iret rfl rfl h))))
  refine J_cl fun x17 σ16 hσ16 => ?_
  refine J_bind fun w18 hw18 => ?_
  refine J_cl fun x20 σ19 hσ19 => ?_
  refine J_cl fun x22 σ21 hσ21 => ?_
  exact J_some (fun h => j_if_t rfl (cc_ne_t h15) (j_aload_n rfl rfl (j_iload_n rfl rfl (j_iload_n rfl rfl (j_iconst (-1 : Int32) rfl k32_m1 (j_iload_n rfl rfl (j_s1 [.int v3] [.int (-1 : Int32), .int v2, .int v1, .ref v0] rfl rfl rfl rfl rfl (t_Mo_sorts (by omega) hσ16) (j_iconst (2 : Int32) rfl k32_2 (j_v1 [.ref v0, .int v1, .int v2, .int (-1 : Int32), .int x17, .int (2 : Int32)] [] rfl rfl rfl rfl rfl rfl hw18 (Or.inl rfl) (t_Mo_countOf (by omega) hσ19) (j_i2l rfl (j_iload rfl rfl (j_i2l rfl (j_iload rfl rfl (j_s1 [.long x20.toInt64, .long x14.toInt64, .int v4] [] rfl rfl rfl rfl rfl (t_Mo_lowest (by omega) hσ21) (j_l2i rfl (j_iret rfl rfl h))))))))))))))))
theorem t_Mo_share {fo : Option Nat} {d : Nat} (hd : 7 ≤ d) {v0 : Nat} {v1 : Int32} {v2 : Int32} {v3 : Int32} {v4 : Int32} {σ σ1 : q_H} {r : Int32} (h : f_Mo_share v0 v1 v2 v3 v4 σ = some (r, σ1)) : q_Rel (q_rf fo) q_Ms d 209 [.ref v0, .int v1, .int v2, .int v3, .int v4] σ (.inl (some (.int r))) σ1 := by
  obtain ⟨d, rfl⟩ : ∃ d1, d = d1 + 1 := ⟨d - 1, by omega⟩
  exact q_Rel.of rfl rfl (b_Mo_share hd _ _ _ _ _ σ _ _ h ⟨rfl, rfl⟩)

def f_Mo_moves (v0 : Nat) (v1 : Int32) (σ : q_H) : Option ((Int32) × q_H) := (q_ob σ 12 v0).bind fun w1 => q_sq (f_Mo_isThere v0 v1 σ) fun x3 σ2 => if x3 = (0 : Int32) then (some ((0 : Int32), σ2)) else ((q_ob σ2 12 v0).bind fun w5 => q_sq (f_Mo_countOf v0 (0 : Int32) (0 : Int32) (-1 : Int32) (31 : Int32) (2 : Int32) σ2) fun x7 σ6 => (q_ob σ6 12 v0).bind fun w8 => q_sq (f_Mo_countOf v0 (0 : Int32) (0 : Int32) v1 (31 : Int32) (2 : Int32) σ6) fun x10 σ9 => if x7.toInt64 = (0 : Int64) then (some ((0 : Int32), σ9)) else (if x10.toInt64 = (0 : Int64) then (some ((0 : Int32), σ9)) else ((q_ob σ9 12 v0).bind fun w13 => q_sq (f_Mo_countOf v0 (0 : Int32) (0 : Int32) v1 (1 : Int32) (2 : Int32) σ9) fun x15 σ14 => (q_ob σ14 12 v0).bind fun w16 => q_sq (f_Mo_countOf v0 (0 : Int32) (0 : Int32) (-1 : Int32) (1 : Int32) (2 : Int32) σ14) fun x18 σ17 => (q_sf σ17 12 v0 25 (.long ((x15.toInt64 * x7.toInt64) - (x18.toInt64 * x10.toInt64)))).bind fun σ19 => (q_sf σ19 12 v0 26 (.long (x7.toInt64 * x10.toInt64))).bind fun σ20 => some ((1 : Int32), σ20))))
set_option maxRecDepth 100000 in
theorem b_Mo_moves {fo : Option Nat} {d : Nat} (hd : 7 ≤ d + 1) {o : q_O} {σ' : q_H} (v0 : Nat) (v1 : Int32) (σ : q_H) : q_J (fun (r : Int32) (σ1 : q_H) => o = .inl (some (.int r)) ∧ σ' = σ1) (f_Mo_moves v0 v1 σ) (q_G (q_rf fo) d m_Mo_moves o σ' 0 [some (.ref v0), some (.int v1), none, none, none, none] [] σ) := by
  unfold f_Mo_moves
  refine J_bind fun w1 hw1 => ?_
  refine J_cl fun x3 σ2 hσ2 => ?_
  refine q_J.step (fun g => j_aload_n rfl rfl (j_iload_n rfl rfl (j_v1 [.ref v0, .int v1] [] rfl rfl rfl rfl rfl rfl hw1 (Or.inl rfl) (t_Mo_isThere (by omega) hσ2) (g)))) ?_
  refine J_ite (fun h4 => ?_) (fun h4 => ?_)
  · exact J_some (fun h => j_if_f rfl (cc_ne_f h4) (j_iconst (0 : Int32) rfl k32_0 (j_iret rfl (q_zr (Or.inl rfl)) h)))
  refine J_bind fun w5 hw5 => ?_
  refine J_cl fun x7 σ6 hσ6 => ?_
  refine J_bind fun w8 hw8 => ?_
  refine J_cl fun x10 σ9 hσ9 => ?_
  refine q_J.step (fun g => j_if_t rfl (cc_ne_t h4) (j_aload_n rfl rfl (j_iconst (0 : Int32) rfl k32_0 (j_iconst (0 : Int32) rfl k32_0 (j_iconst (-1 : Int32) rfl k32_m1 (j_bipush (31 : Int32) rfl kb_31 (j_iconst (2 : Int32) rfl k32_2 (j_v1 [.ref v0, .int (0 : Int32), .int (0 : Int32), .int (-1 : Int32), .int (31 : Int32), .int (2 : Int32)] [] rfl rfl rfl rfl rfl rfl hw5 (Or.inl rfl) (t_Mo_countOf (by omega) hσ6) (j_i2l rfl (j_lstore_n [some (.ref v0), some (.int v1), some (.long x7.toInt64), none, none, none] rfl rfl (Or.inr rfl) rfl (j_aload_n rfl rfl (j_iconst (0 : Int32) rfl k32_0 (j_iconst (0 : Int32) rfl k32_0 (j_iload_n rfl rfl (g))))))))))))))) ?_
  refine q_J.step (fun g => j_bipush (31 : Int32) rfl kb_31 (j_iconst (2 : Int32) rfl k32_2 (j_v1 [.ref v0, .int (0 : Int32), .int (0 : Int32), .int v1, .int (31 : Int32), .int (2 : Int32)] [] rfl rfl rfl rfl rfl rfl hw8 (Or.inl rfl) (t_Mo_countOf (by omega) hσ9) (j_i2l rfl (j_lstore [some (.ref v0), some (.int v1), some (.long x7.toInt64), none, some (.long x10.toInt64), none] rfl rfl (Or.inr True.intro) rfl (j_lload_n rfl rfl (j_lconst (0 : Int64) rfl kl_0 (j_lcmp rfl (g))))))))) ?_
  refine J_ite (fun h11 => ?_) (fun h11 => ?_)
  · exact J_some (fun h => j_if_t rfl (lc_eq_t h11) (j_iconst (0 : Int32) rfl k32_0 (j_iret rfl (q_zr (Or.inl rfl)) h)))
  refine q_J.step (fun g => j_if_f rfl (lc_eq_f h11) (j_lload rfl rfl (j_lconst (0 : Int64) rfl kl_0 (j_lcmp rfl (g))))) ?_
  refine J_ite (fun h12 => ?_) (fun h12 => ?_)
  · exact J_some (fun h => j_if_f rfl (lc_ne_f h12) (j_iconst (0 : Int32) rfl k32_0 (j_iret rfl (q_zr (Or.inl rfl)) h)))
  refine J_bind fun w13 hw13 => ?_
  refine J_cl fun x15 σ14 hσ14 => ?_
  refine J_bind fun w16 hw16 => ?_
  refine J_cl fun x18 σ17 hσ17 => ?_
  refine J_bind fun σ19 hσ19 => ?_
  refine J_bind fun σ20 hσ20 => ?_
  exact J_some (fun h => j_if_t rfl (lc_ne_t h12) (j_aload_n rfl rfl (j_aload_n rfl rfl (j_iconst (0 : Int32) rfl k32_0 (j_iconst (0 : Int32) rfl k32_0 (j_iload_n rfl rfl (j_iconst (1 : Int32) rfl k32_1 (j_iconst (2 : Int32) rfl k32_2 (j_v1 [.ref v0, .int (0 : Int32), .int (0 : Int32), .int v1, .int (1 : Int32), .int (2 : Int32)] [.ref v0] rfl rfl rfl rfl rfl rfl hw13 (Or.inl rfl) (t_Mo_countOf (by omega) hσ14) (j_i2l rfl (j_lload_n rfl rfl (j_lmul rfl (j_aload_n rfl rfl (j_iconst (0 : Int32) rfl k32_0 (j_iconst (0 : Int32) rfl k32_0 (j_iconst (-1 : Int32) rfl k32_m1 (j_iconst (1 : Int32) rfl k32_1 (j_iconst (2 : Int32) rfl k32_2 (j_v1 [.ref v0, .int (0 : Int32), .int (0 : Int32), .int (-1 : Int32), .int (1 : Int32), .int (2 : Int32)] [.long (x15.toInt64 * x7.toInt64), .ref v0] rfl rfl rfl rfl rfl rfl hw16 (Or.inl rfl) (t_Mo_countOf (by omega) hσ17) (j_i2l rfl (j_lload rfl rfl (j_lmul rfl (j_lsub rfl (j_putf rfl rfl rfl rfl hσ19 (j_aload_n rfl rfl (j_lload_n rfl rfl (j_lload rfl rfl (j_lmul rfl (j_putf rfl rfl rfl rfl hσ20 (j_iconst (1 : Int32) rfl k32_1 (j_iret rfl (q_zr (Or.inr rfl)) h)))))))))))))))))))))))))))))))
theorem t_Mo_moves {fo : Option Nat} {d : Nat} (hd : 7 ≤ d) {v0 : Nat} {v1 : Int32} {σ σ1 : q_H} {r : Int32} (h : f_Mo_moves v0 v1 σ = some (r, σ1)) : q_Rel (q_rf fo) q_Ms d 213 [.ref v0, .int v1] σ (.inl (some (.int r))) σ1 := by
  obtain ⟨d, rfl⟩ : ∃ d1, d = d1 + 1 := ⟨d - 1, by omega⟩
  exact q_Rel.of rfl rfl (b_Mo_moves hd _ _ σ _ _ h ⟨rfl, rfl⟩)

def f_Mo_lean (v0 : Nat) (v1 : Int32) (σ : q_H) : Option ((Int32) × q_H) := (q_ob σ 12 v0).bind fun w1 => q_sq (f_Mo_countOf v0 (3 : Int32) (0 : Int32) (-1 : Int32) (31 : Int32) (2 : Int32) σ) fun x3 σ2 => (q_ob σ2 12 v0).bind fun w4 => q_sq (f_Mo_countOf v0 (3 : Int32) (1 : Int32) (-1 : Int32) (31 : Int32) (2 : Int32) σ2) fun x6 σ5 => q_sq (f_Mo_within v1 (0 : Int32) (1 : Int32) σ5) fun x8 σ7 => if x8 = (0 : Int32) then ((q_sf σ7 12 v0 0 (.int (1 : Int32))).bind fun σ10 => (q_gi (q_gf σ10 12 v0 0)).bind fun x11 => if x11 = (1 : Int32) then (some ((0 : Int32), σ10)) else ((q_ob σ10 12 v0).bind fun w13 => q_sq (f_Mo_countOf v0 (3 : Int32) (0 : Int32) (-1 : Int32) (1 : Int32) (2 : Int32) σ10) fun x15 σ14 => (q_ob σ14 12 v0).bind fun w16 => q_sq (f_Mo_countOf v0 (3 : Int32) (1 : Int32) (-1 : Int32) (1 : Int32) (2 : Int32) σ14) fun x18 σ17 => q_sq (f_Mo_lowest ((x15.toInt64 * x6.toInt64) - (x18.toInt64 * x3.toInt64)) (x3.toInt64 * x6.toInt64) v1 σ17) fun x20 σ19 => some (x20.toInt32, σ19))) else (if (0 : Int64) < x3.toInt64 then (q_sq (if (0 : Int64) < x6.toInt64 then (some ((0 : Int32), σ7)) else (some ((1 : Int32), σ7))) fun (t23 : Int32) σ24 => (q_sf σ24 12 v0 0 (.int t23)).bind fun σ25 => (q_gi (q_gf σ25 12 v0 0)).bind fun x26 => if x26 = (1 : Int32) then (some ((0 : Int32), σ25)) else ((q_ob σ25 12 v0).bind fun w28 => q_sq (f_Mo_countOf v0 (3 : Int32) (0 : Int32) (-1 : Int32) (1 : Int32) (2 : Int32) σ25) fun x30 σ29 => (q_ob σ29 12 v0).bind fun w31 => q_sq (f_Mo_countOf v0 (3 : Int32) (1 : Int32) (-1 : Int32) (1 : Int32) (2 : Int32) σ29) fun x33 σ32 => q_sq (f_Mo_lowest ((x30.toInt64 * x6.toInt64) - (x33.toInt64 * x3.toInt64)) (x3.toInt64 * x6.toInt64) v1 σ32) fun x35 σ34 => some (x35.toInt32, σ34))) else ((q_sf σ7 12 v0 0 (.int (1 : Int32))).bind fun σ36 => (q_gi (q_gf σ36 12 v0 0)).bind fun x37 => if x37 = (1 : Int32) then (some ((0 : Int32), σ36)) else ((q_ob σ36 12 v0).bind fun w39 => q_sq (f_Mo_countOf v0 (3 : Int32) (0 : Int32) (-1 : Int32) (1 : Int32) (2 : Int32) σ36) fun x41 σ40 => (q_ob σ40 12 v0).bind fun w42 => q_sq (f_Mo_countOf v0 (3 : Int32) (1 : Int32) (-1 : Int32) (1 : Int32) (2 : Int32) σ40) fun x44 σ43 => q_sq (f_Mo_lowest ((x41.toInt64 * x6.toInt64) - (x44.toInt64 * x3.toInt64)) (x3.toInt64 * x6.toInt64) v1 σ43) fun x46 σ45 => some (x46.toInt32, σ45))))
set_option maxRecDepth 100000 in
theorem b_Mo_lean {fo : Option Nat} {d : Nat} (hd : 7 ≤ d + 1) {o : q_O} {σ' : q_H} (v0 : Nat) (v1 : Int32) (σ : q_H) : q_J (fun (r : Int32) (σ1 : q_H) => o = .inl (some (.int r)) ∧ σ' = σ1) (f_Mo_lean v0 v1 σ) (q_G (q_rf fo) d m_Mo_lean o σ' 0 [some (.ref v0), some (.int v1), none, none, none, none] [] σ) := by
  unfold f_Mo_lean
  refine J_bind fun w1 hw1 => ?_
  refine J_cl fun x3 σ2 hσ2 => ?_
  refine J_bind fun w4 hw4 => ?_
  refine J_cl fun x6 σ5 hσ5 => ?_
  refine J_cl fun x8 σ7 hσ7 => ?_
  refine q_J.step (fun g => j_aload_n rfl rfl (j_iconst (3 : Int32) rfl k32_3 (j_iconst (0 : Int32) rfl k32_0 (j_iconst (-1 : Int32) rfl k32_m1 (j_bipush (31 : Int32) rfl kb_31 (j_iconst (2 : Int32) rfl k32_2 (j_v1 [.ref v0, .int (3 : Int32), .int (0 : Int32), .int (-1 : Int32), .int (31 : Int32), .int (2 : Int32)] [] rfl rfl rfl rfl rfl rfl hw1 (Or.inl rfl) (t_Mo_countOf (by omega) hσ2) (j_i2l rfl (j_lstore_n [some (.ref v0), some (.int v1), some (.long x3.toInt64), none, none, none] rfl rfl (Or.inr rfl) rfl (j_aload_n rfl rfl (j_iconst (3 : Int32) rfl k32_3 (j_iconst (1 : Int32) rfl k32_1 (j_iconst (-1 : Int32) rfl k32_m1 (j_bipush (31 : Int32) rfl kb_31 (g))))))))))))))) ?_
  refine q_J.step (fun g => j_iconst (2 : Int32) rfl k32_2 (j_v1 [.ref v0, .int (3 : Int32), .int (1 : Int32), .int (-1 : Int32), .int (31 : Int32), .int (2 : Int32)] [] rfl rfl rfl rfl rfl rfl hw4 (Or.inl rfl) (t_Mo_countOf (by omega) hσ5) (j_i2l rfl (j_lstore [some (.ref v0), some (.int v1), some (.long x3.toInt64), none, some (.long x6.toInt64), none] rfl rfl (Or.inr True.intro) rfl (j_aload_n rfl rfl (j_iload_n rfl rfl (j_iconst (0 : Int32) rfl k32_0 (j_iconst (1 : Int32) rfl k32_1 (j_s1 [.int v1, .int (0 : Int32), .int (1 : Int32)] [.ref v0] rfl rfl rfl rfl rfl (t_Mo_within (by omega) hσ7) (g)))))))))) ?_
  refine J_ite (fun h9 => ?_) (fun h9 => ?_)
  · refine J_bind fun σ10 hσ10 => ?_
    refine J_bind fun x11 hx11 => ?_
    refine q_J.step (fun g => j_if_t rfl (cc_eq_t h9) (j_iconst (1 : Int32) rfl k32_1 (j_putf rfl rfl rfl rfl hσ10 (j_aload_n rfl rfl (j_gfi rfl hx11 (j_iconst (1 : Int32) rfl k32_1 (g))))))) ?_
    refine J_ite (fun h12 => ?_) (fun h12 => ?_)
    · exact J_some (fun h => j_icmp_f rfl (cc_ne_f h12) (j_iconst (0 : Int32) rfl k32_0 (j_goto rfl (j_iret rfl rfl h))))
    refine J_bind fun w13 hw13 => ?_
    refine J_cl fun x15 σ14 hσ14 => ?_
    refine J_bind fun w16 hw16 => ?_
    refine J_cl fun x18 σ17 hσ17 => ?_
    refine J_cl fun x20 σ19 hσ19 => ?_
    exact J_some (fun h => j_icmp_t rfl (cc_ne_t h12) (j_aload_n rfl rfl (j_iconst (3 : Int32) rfl k32_3 (j_iconst (0 : Int32) rfl k32_0 (j_iconst (-1 : Int32) rfl k32_m1 (j_iconst (1 : Int32) rfl k32_1 (j_iconst (2 : Int32) rfl k32_2 (j_v1 [.ref v0, .int (3 : Int32), .int (0 : Int32), .int (-1 : Int32), .int (1 : Int32), .int (2 : Int32)] [] rfl rfl rfl rfl rfl rfl hw13 (Or.inl rfl) (t_Mo_countOf (by omega) hσ14) (j_i2l rfl (j_lload rfl rfl (j_lmul rfl (j_aload_n rfl rfl (j_iconst (3 : Int32) rfl k32_3 (j_iconst (1 : Int32) rfl k32_1 (j_iconst (-1 : Int32) rfl k32_m1 (j_iconst (1 : Int32) rfl k32_1 (j_iconst (2 : Int32) rfl k32_2 (j_v1 [.ref v0, .int (3 : Int32), .int (1 : Int32), .int (-1 : Int32), .int (1 : Int32), .int (2 : Int32)] [.long (x15.toInt64 * x6.toInt64)] rfl rfl rfl rfl rfl rfl hw16 (Or.inl rfl) (t_Mo_countOf (by omega) hσ17) (j_i2l rfl (j_lload_n rfl rfl (j_lmul rfl (j_lsub rfl (j_lload_n rfl rfl (j_lload rfl rfl (j_lmul rfl (j_iload_n rfl rfl (j_s1 [.long ((x15.toInt64 * x6.toInt64) - (x18.toInt64 * x3.toInt64)), .long (x3.toInt64 * x6.toInt64), .int v1] [] rfl rfl rfl rfl rfl (t_Mo_lowest (by omega) hσ19) (j_l2i rfl (j_iret rfl rfl h)))))))))))))))))))))))))))))
  refine q_J.step (fun g => j_if_f rfl (cc_eq_f h9) (j_lload_n rfl rfl (j_lconst (0 : Int64) rfl kl_0 (j_lcmp rfl (g))))) ?_
  refine J_ite (fun h21 => ?_) (fun h21 => ?_)
  · refine q_J.step (fun g => j_if_f rfl (lc_le_f h21) (j_lload rfl rfl (j_lconst (0 : Int64) rfl kl_0 (j_lcmp rfl (g))))) ?_
    refine J_sq (fun (t23 : Int32) (σ24 : q_H) => q_G (q_rf fo) d m_Mo_lean o σ' 53 [some (.ref v0), some (.int v1), some (.long x3.toInt64), none, some (.long x6.toInt64), none] [.int t23, .ref v0] σ24) ?_ (fun t23 σ24 => ?_)
    · refine J_ite (fun h22 => ?_) (fun h22 => ?_)
      · exact J_some (fun h => j_if_f rfl (lc_le_f h22) (j_iconst (0 : Int32) rfl k32_0 (j_goto rfl (h))))
      exact J_some (fun h => j_if_t rfl (lc_le_t h22) (j_iconst (1 : Int32) rfl k32_1 (h)))
    refine J_bind fun σ25 hσ25 => ?_
    refine J_bind fun x26 hx26 => ?_
    refine q_J.step (fun g => j_putf rfl rfl rfl rfl hσ25 (j_aload_n rfl rfl (j_gfi rfl hx26 (j_iconst (1 : Int32) rfl k32_1 (g))))) ?_
    refine J_ite (fun h27 => ?_) (fun h27 => ?_)
    · exact J_some (fun h => j_icmp_f rfl (cc_ne_f h27) (j_iconst (0 : Int32) rfl k32_0 (j_goto rfl (j_iret rfl rfl h))))
    refine J_bind fun w28 hw28 => ?_
    refine J_cl fun x30 σ29 hσ29 => ?_
    refine J_bind fun w31 hw31 => ?_
    refine J_cl fun x33 σ32 hσ32 => ?_
    refine J_cl fun x35 σ34 hσ34 => ?_
    exact J_some (fun h => j_icmp_t rfl (cc_ne_t h27) (j_aload_n rfl rfl (j_iconst (3 : Int32) rfl k32_3 (j_iconst (0 : Int32) rfl k32_0 (j_iconst (-1 : Int32) rfl k32_m1 (j_iconst (1 : Int32) rfl k32_1 (j_iconst (2 : Int32) rfl k32_2 (j_v1 [.ref v0, .int (3 : Int32), .int (0 : Int32), .int (-1 : Int32), .int (1 : Int32), .int (2 : Int32)] [] rfl rfl rfl rfl rfl rfl hw28 (Or.inl rfl) (t_Mo_countOf (by omega) hσ29) (j_i2l rfl (j_lload rfl rfl (j_lmul rfl (j_aload_n rfl rfl (j_iconst (3 : Int32) rfl k32_3 (j_iconst (1 : Int32) rfl k32_1 (j_iconst (-1 : Int32) rfl k32_m1 (j_iconst (1 : Int32) rfl k32_1 (j_iconst (2 : Int32) rfl k32_2 (j_v1 [.ref v0, .int (3 : Int32), .int (1 : Int32), .int (-1 : Int32), .int (1 : Int32), .int (2 : Int32)] [.long (x30.toInt64 * x6.toInt64)] rfl rfl rfl rfl rfl rfl hw31 (Or.inl rfl) (t_Mo_countOf (by omega) hσ32) (j_i2l rfl (j_lload_n rfl rfl (j_lmul rfl (j_lsub rfl (j_lload_n rfl rfl (j_lload rfl rfl (j_lmul rfl (j_iload_n rfl rfl (j_s1 [.long ((x30.toInt64 * x6.toInt64) - (x33.toInt64 * x3.toInt64)), .long (x3.toInt64 * x6.toInt64), .int v1] [] rfl rfl rfl rfl rfl (t_Mo_lowest (by omega) hσ34) (j_l2i rfl (j_iret rfl rfl h)))))))))))))))))))))))))))))
  refine J_bind fun σ36 hσ36 => ?_
  refine J_bind fun x37 hx37 => ?_
  refine q_J.step (fun g => j_if_t rfl (lc_le_t h21) (j_iconst (1 : Int32) rfl k32_1 (j_putf rfl rfl rfl rfl hσ36 (j_aload_n rfl rfl (j_gfi rfl hx37 (j_iconst (1 : Int32) rfl k32_1 (g))))))) ?_
  refine J_ite (fun h38 => ?_) (fun h38 => ?_)
  · exact J_some (fun h => j_icmp_f rfl (cc_ne_f h38) (j_iconst (0 : Int32) rfl k32_0 (j_goto rfl (j_iret rfl rfl h))))
  refine J_bind fun w39 hw39 => ?_
  refine J_cl fun x41 σ40 hσ40 => ?_
  refine J_bind fun w42 hw42 => ?_
  refine J_cl fun x44 σ43 hσ43 => ?_
  refine J_cl fun x46 σ45 hσ45 => ?_
  exact J_some (fun h => j_icmp_t rfl (cc_ne_t h38) (j_aload_n rfl rfl (j_iconst (3 : Int32) rfl k32_3 (j_iconst (0 : Int32) rfl k32_0 (j_iconst (-1 : Int32) rfl k32_m1 (j_iconst (1 : Int32) rfl k32_1 (j_iconst (2 : Int32) rfl k32_2 (j_v1 [.ref v0, .int (3 : Int32), .int (0 : Int32), .int (-1 : Int32), .int (1 : Int32), .int (2 : Int32)] [] rfl rfl rfl rfl rfl rfl hw39 (Or.inl rfl) (t_Mo_countOf (by omega) hσ40) (j_i2l rfl (j_lload rfl rfl (j_lmul rfl (j_aload_n rfl rfl (j_iconst (3 : Int32) rfl k32_3 (j_iconst (1 : Int32) rfl k32_1 (j_iconst (-1 : Int32) rfl k32_m1 (j_iconst (1 : Int32) rfl k32_1 (j_iconst (2 : Int32) rfl k32_2 (j_v1 [.ref v0, .int (3 : Int32), .int (1 : Int32), .int (-1 : Int32), .int (1 : Int32), .int (2 : Int32)] [.long (x41.toInt64 * x6.toInt64)] rfl rfl rfl rfl rfl rfl hw42 (Or.inl rfl) (t_Mo_countOf (by omega) hσ43) (j_i2l rfl (j_lload_n rfl rfl (j_lmul rfl (j_lsub rfl (j_lload_n rfl rfl (j_lload rfl rfl (j_lmul rfl (j_iload_n rfl rfl (j_s1 [.long ((x41.toInt64 * x6.toInt64) - (x44.toInt64 * x3.toInt64)), .long (x3.toInt64 * x6.toInt64), .int v1] [] rfl rfl rfl rfl rfl (t_Mo_lowest (by omega) hσ45) (j_l2i rfl (j_iret rfl rfl h)))))))))))))))))))))))))))))
theorem t_Mo_lean {fo : Option Nat} {d : Nat} (hd : 7 ≤ d) {v0 : Nat} {v1 : Int32} {σ σ1 : q_H} {r : Int32} (h : f_Mo_lean v0 v1 σ = some (r, σ1)) : q_Rel (q_rf fo) q_Ms d 215 [.ref v0, .int v1] σ (.inl (some (.int r))) σ1 := by
  obtain ⟨d, rfl⟩ : ∃ d1, d = d1 + 1 := ⟨d - 1, by omega⟩
  exact q_Rel.of rfl rfl (b_Mo_lean hd _ _ σ _ _ h ⟨rfl, rfl⟩)

def f_Mo_bounds_L9 (v0 : Nat) (v1 : Int32) : Nat → Int32 → Int32 → q_H → Option ((Int32) × q_H)
  | 0, _, _, _ => none
  | n + 1, v2, v3, σ => if v3 < (24 : Int32) then ((q_gr (q_gf σ 12 v0 2)).bind fun x3 => (q_gi (q_ga σ 22 x3 v3)).bind fun x4 => if x4 = (0 : Int32) then (f_Mo_bounds_L9 v0 v1 n (v2 + (0 : Int32)) (v3 + (1 : Int32)) σ) else ((q_gr (q_gf σ 12 v0 3)).bind fun x6 => (q_gi (q_ga σ 22 x6 v3)).bind fun x7 => if x7 = (0 : Int32) then ((q_gr (q_gf σ 12 v0 6)).bind fun x9 => (q_gi (q_ga σ 20 x9 v3)).bind fun x10 => f_Mo_bounds_L9 v0 v1 n (v2 + x10) (v3 + (1 : Int32)) σ) else (f_Mo_bounds_L9 v0 v1 n (v2 + (0 : Int32)) (v3 + (1 : Int32)) σ))) else (some (v2, σ))
set_option maxRecDepth 100000 in
theorem l_Mo_bounds_L9 {fo : Option Nat} {d : Nat} (hd : 7 ≤ d + 1) {o : q_O} {σ' : q_H} {E : (Int32) → q_H → Prop} (v0 : Nat) (v1 : Int32) (hX : ∀ (t : Int32) σ1, E (t) σ1 → q_G (q_rf fo) d m_Mo_bounds o σ' 52 [some (.ref v0), some (.int v1), some (.int t), none] [] σ1)  : ∀ (n : Nat) (v2 : Int32) (v3 : Int32) (σ : q_H), q_J E (f_Mo_bounds_L9 v0 v1 n v2 v3 σ) (q_G (q_rf fo) d m_Mo_bounds o σ' 9 [some (.ref v0), some (.int v1), some (.int v2), some (.int v3)] [] σ)
  | 0, v2, v3, σ => J_none
  | n + 1, v2, v3, σ => by
    unfold f_Mo_bounds_L9
    refine q_J.step (fun g => j_iload_n rfl rfl (j_bipush (24 : Int32) rfl kb_24 (g))) ?_
    refine J_ite (fun h2 => ?_) (fun h2 => ?_)
    · refine J_bind fun x3 hx3 => ?_
      refine J_bind fun x4 hx4 => ?_
      refine q_J.step (fun g => j_icmp_f rfl (cc_ge_f h2) (j_iload_n rfl rfl (j_aload_n rfl rfl (j_gfr rfl hx3 (j_iload_n rfl rfl (j_bal rfl rfl hx4 (g))))))) ?_
      refine J_ite (fun h5 => ?_) (fun h5 => ?_)
      · exact q_J.step (fun g => j_if_t rfl (cc_eq_t h5) (j_iconst (0 : Int32) rfl k32_0 (j_iadd rfl (j_istore_n [some (.ref v0), some (.int v1), some (.int (v2 + (0 : Int32))), some (.int v3)] rfl rfl (Or.inr rfl) rfl (j_iinc [some (.ref v0), some (.int v1), some (.int (v2 + (0 : Int32))), some (.int (v3 + (1 : Int32)))] (v3 + (1 : Int32)) rfl rfl (by rw [k32_1]) (Or.inr rfl) rfl (j_goto rfl (g))))))) (l_Mo_bounds_L9 hd v0 v1 hX n (v2 + (0 : Int32)) (v3 + (1 : Int32)) σ)
      refine J_bind fun x6 hx6 => ?_
      refine J_bind fun x7 hx7 => ?_
      refine q_J.step (fun g => j_if_f rfl (cc_eq_f h5) (j_aload_n rfl rfl (j_gfr rfl hx6 (j_iload_n rfl rfl (j_bal rfl rfl hx7 (g)))))) ?_
      refine J_ite (fun h8 => ?_) (fun h8 => ?_)
      · refine J_bind fun x9 hx9 => ?_
        refine J_bind fun x10 hx10 => ?_
        exact q_J.step (fun g => j_if_f rfl (cc_ne_f h8) (j_aload_n rfl rfl (j_gfr rfl hx9 (j_iload_n rfl rfl (j_ial rfl hx10 (j_goto rfl (j_iadd rfl (j_istore_n [some (.ref v0), some (.int v1), some (.int (v2 + x10)), some (.int v3)] rfl rfl (Or.inr rfl) rfl (j_iinc [some (.ref v0), some (.int v1), some (.int (v2 + x10)), some (.int (v3 + (1 : Int32)))] (v3 + (1 : Int32)) rfl rfl (by rw [k32_1]) (Or.inr rfl) rfl (j_goto rfl (g))))))))))) (l_Mo_bounds_L9 hd v0 v1 hX n (v2 + x10) (v3 + (1 : Int32)) σ)
      exact q_J.step (fun g => j_if_t rfl (cc_ne_t h8) (j_iconst (0 : Int32) rfl k32_0 (j_iadd rfl (j_istore_n [some (.ref v0), some (.int v1), some (.int (v2 + (0 : Int32))), some (.int v3)] rfl rfl (Or.inr rfl) rfl (j_iinc [some (.ref v0), some (.int v1), some (.int (v2 + (0 : Int32))), some (.int (v3 + (1 : Int32)))] (v3 + (1 : Int32)) rfl rfl (by rw [k32_1]) (Or.inr rfl) rfl (j_goto rfl (g))))))) (l_Mo_bounds_L9 hd v0 v1 hX n (v2 + (0 : Int32)) (v3 + (1 : Int32)) σ)
    exact J_some (fun h => j_icmp_t rfl (cc_ge_t h2) (j_weak (l := [some (.ref v0), some (.int v1), some (.int v2), none]) (And.intro (Or.inr rfl) (And.intro (Or.inr rfl) (And.intro (Or.inr rfl) (And.intro (Or.inl rfl) True.intro)))) (hX _ _ h)))

def f_Mo_bounds (v0 : Nat) (v1 : Int32) (σ : q_H) : Option ((Int32) × q_H) := (q_sf σ 12 v0 0 (.int (0 : Int32))).bind fun σ1 => q_sq (f_Mo_bounds_L9 v0 v1 q_FU (0 : Int32) (0 : Int32) σ1) fun (t11 : Int32) σ12 => (q_ob σ12 12 v0).bind fun w13 => q_sq (f_Mo_countOf v0 (0 : Int32) (0 : Int32) (-1 : Int32) (31 : Int32) (2 : Int32) σ12) fun x15 σ14 => q_sq (f_Mo_within v1 (0 : Int32) (3 : Int32) σ14) fun x17 σ16 => if x17 = (0 : Int32) then (some ((-1 : Int32), σ16)) else (if (x15 + t11) = (0 : Int32) then (some ((-1 : Int32), σ16)) else ((q_ob σ16 12 v0).bind fun w20 => q_sq (f_Mo_countOf v0 (0 : Int32) (0 : Int32) (-1 : Int32) (1 : Int32) (2 : Int32) σ16) fun x22 σ21 => q_sq (if (1 : Int32) < v1 then (some (t11, σ21)) else (some ((0 : Int32), σ21))) fun (t24 : Int32) σ25 => q_sq (f_Mo_lowest ((x22 + t24).toInt64) ((x15 + t11).toInt64) (v1 - v1 / (2 : Int32) * (2 : Int32)) σ25) fun x27 σ26 => some (x27.toInt32, σ26)))
set_option maxRecDepth 100000 in
theorem b_Mo_bounds {fo : Option Nat} {d : Nat} (hd : 7 ≤ d + 1) {o : q_O} {σ' : q_H} (v0 : Nat) (v1 : Int32) (σ : q_H) : q_J (fun (r : Int32) (σ1 : q_H) => o = .inl (some (.int r)) ∧ σ' = σ1) (f_Mo_bounds v0 v1 σ) (q_G (q_rf fo) d m_Mo_bounds o σ' 0 [some (.ref v0), some (.int v1), none, none] [] σ) := by
  unfold f_Mo_bounds
  refine J_bind fun σ1 hσ1 => ?_
  refine J_sq (fun (t11 : Int32) (σ12 : q_H) => q_G (q_rf fo) d m_Mo_bounds o σ' 52 [some (.ref v0), some (.int v1), some (.int t11), none] [] σ12) (q_J.step (fun g => j_aload_n rfl rfl (j_iconst (0 : Int32) rfl k32_0 (j_putf rfl rfl rfl rfl hσ1 (j_iconst (0 : Int32) rfl k32_0 (j_istore_n [some (.ref v0), some (.int v1), some (.int (0 : Int32)), none] rfl rfl (Or.inr rfl) rfl (j_iconst (0 : Int32) rfl k32_0 (j_istore_n [some (.ref v0), some (.int v1), some (.int (0 : Int32)), some (.int (0 : Int32))] rfl rfl (Or.inr rfl) rfl (g)))))))) (l_Mo_bounds_L9 hd v0 v1 (fun _ _ h => h) q_FU (0 : Int32) (0 : Int32) σ1)) (fun t11 σ12 => ?_)
  refine J_bind fun w13 hw13 => ?_
  refine J_cl fun x15 σ14 hσ14 => ?_
  refine J_cl fun x17 σ16 hσ16 => ?_
  refine q_J.step (fun g => j_aload_n rfl rfl (j_iconst (0 : Int32) rfl k32_0 (j_iconst (0 : Int32) rfl k32_0 (j_iconst (-1 : Int32) rfl k32_m1 (j_bipush (31 : Int32) rfl kb_31 (j_iconst (2 : Int32) rfl k32_2 (j_v1 [.ref v0, .int (0 : Int32), .int (0 : Int32), .int (-1 : Int32), .int (31 : Int32), .int (2 : Int32)] [] rfl rfl rfl rfl rfl rfl hw13 (Or.inl rfl) (t_Mo_countOf (by omega) hσ14) (j_iload_n rfl rfl (j_iadd rfl (j_istore_n [some (.ref v0), some (.int v1), some (.int t11), some (.int (x15 + t11))] rfl rfl (Or.inr rfl) rfl (j_iload_n rfl rfl (j_iconst (0 : Int32) rfl k32_0 (j_iconst (3 : Int32) rfl k32_3 (j_s1 [.int v1, .int (0 : Int32), .int (3 : Int32)] [] rfl rfl rfl rfl rfl (t_Mo_within (by omega) hσ16) (g))))))))))))))) ?_
  refine J_ite (fun h18 => ?_) (fun h18 => ?_)
  · exact J_some (fun h => j_if_t rfl (cc_eq_t h18) (j_iconst (-1 : Int32) rfl k32_m1 (j_iret rfl rfl h)))
  refine q_J.step (fun g => j_if_f rfl (cc_eq_f h18) (j_iload_n rfl rfl (g))) ?_
  refine J_ite (fun h19 => ?_) (fun h19 => ?_)
  · exact J_some (fun h => j_if_f rfl (cc_ne_f h19) (j_iconst (-1 : Int32) rfl k32_m1 (j_iret rfl rfl h)))
  refine J_bind fun w20 hw20 => ?_
  refine J_cl fun x22 σ21 hσ21 => ?_
  refine q_J.step (fun g => j_if_t rfl (cc_ne_t h19) (j_aload_n rfl rfl (j_iconst (0 : Int32) rfl k32_0 (j_iconst (0 : Int32) rfl k32_0 (j_iconst (-1 : Int32) rfl k32_m1 (j_iconst (1 : Int32) rfl k32_1 (j_iconst (2 : Int32) rfl k32_2 (j_v1 [.ref v0, .int (0 : Int32), .int (0 : Int32), .int (-1 : Int32), .int (1 : Int32), .int (2 : Int32)] [] rfl rfl rfl rfl rfl rfl hw20 (Or.inl rfl) (t_Mo_countOf (by omega) hσ21) (j_iload_n rfl rfl (j_iconst (1 : Int32) rfl k32_1 (g))))))))))) ?_
  refine J_sq (fun (t24 : Int32) (σ25 : q_H) => q_G (q_rf fo) d m_Mo_bounds o σ' 99 [none, some (.int v1), none, some (.int (x15 + t11))] [.int t24, .int x22] σ25) ?_ (fun t24 σ25 => ?_)
  · refine J_ite (fun h23 => ?_) (fun h23 => ?_)
    · exact J_some (fun h => j_icmp_f rfl (cc_le_f h23) (j_iload_n rfl rfl (j_goto rfl (j_weak (l := [none, some (.int v1), none, some (.int (x15 + t11))]) (And.intro (Or.inl rfl) (And.intro (Or.inr rfl) (And.intro (Or.inl rfl) (And.intro (Or.inr rfl) True.intro)))) (h)))))
    exact J_some (fun h => j_icmp_t rfl (cc_le_t h23) (j_iconst (0 : Int32) rfl k32_0 (j_weak (l := [none, some (.int v1), none, some (.int (x15 + t11))]) (And.intro (Or.inl rfl) (And.intro (Or.inr rfl) (And.intro (Or.inl rfl) (And.intro (Or.inr rfl) True.intro)))) (h))))
  refine J_cl fun x27 σ26 hσ26 => ?_
  exact J_some (fun h => j_iadd rfl (j_i2l rfl (j_iload_n rfl rfl (j_i2l rfl (j_iload_n rfl rfl (j_iconst (2 : Int32) rfl k32_2 (j_irem rfl (by decide) (j_s1 [.long ((x22 + t24).toInt64), .long ((x15 + t11).toInt64), .int (v1 - v1 / (2 : Int32) * (2 : Int32))] [] rfl rfl rfl rfl rfl (t_Mo_lowest (by omega) hσ26) (j_l2i rfl (j_iret rfl rfl h))))))))))
theorem t_Mo_bounds {fo : Option Nat} {d : Nat} (hd : 7 ≤ d) {v0 : Nat} {v1 : Int32} {σ σ1 : q_H} {r : Int32} (h : f_Mo_bounds v0 v1 σ = some (r, σ1)) : q_Rel (q_rf fo) q_Ms d 216 [.ref v0, .int v1] σ (.inl (some (.int r))) σ1 := by
  obtain ⟨d, rfl⟩ : ∃ d1, d = d1 + 1 := ⟨d - 1, by omega⟩
  exact q_Rel.of rfl rfl (b_Mo_bounds hd _ _ σ _ _ h ⟨rfl, rfl⟩)

def f_Mo_next_L11 (v0 : Nat) : Nat → Int32 → Int32 → Int32 → q_H → Option ((Int32) × q_H)
  | 0, _, _, _, _ => none
  | n + 1, v1, v2, v3, σ => if v3 < (24 : Int32) then ((q_gr (q_gf σ 12 v0 2)).bind fun x3 => (q_gi (q_ga σ 22 x3 v3)).bind fun x4 => if x4 = (0 : Int32) then (f_Mo_next_L11 v0 n v1 v2 (v3 + (1 : Int32)) σ) else ((q_gr (q_gf σ 12 v0 3)).bind fun x6 => (q_gi (q_ga σ 22 x6 v3)).bind fun x7 => if x7 = (0 : Int32) then ((q_gr (q_gf σ 12 v0 4)).bind fun x9 => (q_gi (q_ga σ 20 x9 v3)).bind fun x10 => (q_ob σ 12 v0).bind fun w11 => q_sq (f_Mo_countOf v0 (1 : Int32) x10 (-1 : Int32) (31 : Int32) (2 : Int32) σ) fun x13 σ12 => if v1 < (0 : Int32) then (f_Mo_next_L11 v0 n v3 x13 (v3 + (1 : Int32)) σ12) else ((q_gr (q_gf σ12 12 v0 6)).bind fun x15 => (q_gi (q_ga σ12 20 x15 v3)).bind fun x16 => (q_gr (q_gf σ12 12 v0 6)).bind fun x17 => (q_gi (q_ga σ12 20 x17 v1)).bind fun x18 => if x16 < x18 then (f_Mo_next_L11 v0 n v1 v2 (v3 + (1 : Int32)) σ12) else ((q_gr (q_gf σ12 12 v0 6)).bind fun x20 => (q_gi (q_ga σ12 20 x20 v3)).bind fun x21 => (q_gr (q_gf σ12 12 v0 6)).bind fun x22 => (q_gi (q_ga σ12 20 x22 v1)).bind fun x23 => if x21 = x23 then (if x13 < v2 then (f_Mo_next_L11 v0 n v3 x13 (v3 + (1 : Int32)) σ12) else (f_Mo_next_L11 v0 n v1 v2 (v3 + (1 : Int32)) σ12)) else (f_Mo_next_L11 v0 n v3 x13 (v3 + (1 : Int32)) σ12)))) else (f_Mo_next_L11 v0 n v1 v2 (v3 + (1 : Int32)) σ))) else (some (v1, σ))
set_option maxRecDepth 100000 in
theorem l_Mo_next_L11 {fo : Option Nat} {d : Nat} (hd : 7 ≤ d + 1) {o : q_O} {σ' : q_H} {E : (Int32) → q_H → Prop} (v0 : Nat) (hX : ∀ (t : Int32) σ1, E (t) σ1 → q_G (q_rf fo) d m_Mo_next o σ' 109 [none, some (.int t), none, none, none] [] σ1)  : ∀ (n : Nat) (v1 : Int32) (v2 : Int32) (v3 : Int32) (σ : q_H), q_J E (f_Mo_next_L11 v0 n v1 v2 v3 σ) (q_G (q_rf fo) d m_Mo_next o σ' 11 [some (.ref v0), some (.int v1), some (.int v2), some (.int v3), none] [] σ)
  | 0, v1, v2, v3, σ => J_none
  | n + 1, v1, v2, v3, σ => by
    unfold f_Mo_next_L11
    refine q_J.step (fun g => j_iload_n rfl rfl (j_bipush (24 : Int32) rfl kb_24 (g))) ?_
    refine J_ite (fun h2 => ?_) (fun h2 => ?_)
    · refine J_bind fun x3 hx3 => ?_
      refine J_bind fun x4 hx4 => ?_
      refine q_J.step (fun g => j_icmp_f rfl (cc_ge_f h2) (j_aload_n rfl rfl (j_gfr rfl hx3 (j_iload_n rfl rfl (j_bal rfl rfl hx4 (g)))))) ?_
      refine J_ite (fun h5 => ?_) (fun h5 => ?_)
      · exact q_J.step (fun g => j_if_t rfl (cc_eq_t h5) (j_iinc [some (.ref v0), some (.int v1), some (.int v2), some (.int (v3 + (1 : Int32))), none] (v3 + (1 : Int32)) rfl rfl (by rw [k32_1]) (Or.inr rfl) rfl (j_goto rfl (g)))) (l_Mo_next_L11 hd v0 hX n v1 v2 (v3 + (1 : Int32)) σ)
      refine J_bind fun x6 hx6 => ?_
      refine J_bind fun x7 hx7 => ?_
      refine q_J.step (fun g => j_if_f rfl (cc_eq_f h5) (j_aload_n rfl rfl (j_gfr rfl hx6 (j_iload_n rfl rfl (j_bal rfl rfl hx7 (g)))))) ?_
      refine J_ite (fun h8 => ?_) (fun h8 => ?_)
      · refine J_bind fun x9 hx9 => ?_
        refine J_bind fun x10 hx10 => ?_
        refine J_bind fun w11 hw11 => ?_
        refine J_cl fun x13 σ12 hσ12 => ?_
        refine q_J.step (fun g => j_if_t rfl (cc_eq_t h8) (j_aload_n rfl rfl (j_iconst (1 : Int32) rfl k32_1 (j_aload_n rfl rfl (j_gfr rfl hx9 (j_iload_n rfl rfl (j_ial rfl hx10 (j_iconst (-1 : Int32) rfl k32_m1 (j_bipush (31 : Int32) rfl kb_31 (j_iconst (2 : Int32) rfl k32_2 (j_v1 [.ref v0, .int (1 : Int32), .int x10, .int (-1 : Int32), .int (31 : Int32), .int (2 : Int32)] [] rfl rfl rfl rfl rfl rfl hw11 (Or.inl rfl) (t_Mo_countOf (by omega) hσ12) (j_istore [some (.ref v0), some (.int v1), some (.int v2), some (.int v3), some (.int x13)] rfl rfl (Or.inr rfl) rfl (j_iload_n rfl rfl (g)))))))))))))) ?_
        refine J_ite (fun h14 => ?_) (fun h14 => ?_)
        · exact q_J.step (fun g => j_if_t rfl (cc_lt_t h14) (j_iload_n rfl rfl (j_istore_n [some (.ref v0), some (.int v3), some (.int v2), some (.int v3), some (.int x13)] rfl rfl (Or.inr rfl) rfl (j_iload rfl rfl (j_istore_n [some (.ref v0), some (.int v3), some (.int x13), some (.int v3), some (.int x13)] rfl rfl (Or.inr rfl) rfl (j_iinc [some (.ref v0), some (.int v3), some (.int x13), some (.int (v3 + (1 : Int32))), some (.int x13)] (v3 + (1 : Int32)) rfl rfl (by rw [k32_1]) (Or.inr rfl) rfl (j_goto rfl (j_weak (l := [some (.ref v0), some (.int v3), some (.int x13), some (.int (v3 + (1 : Int32))), none]) (And.intro (Or.inr rfl) (And.intro (Or.inr rfl) (And.intro (Or.inr rfl) (And.intro (Or.inr rfl) (And.intro (Or.inl rfl) True.intro))))) (g))))))))) (l_Mo_next_L11 hd v0 hX n v3 x13 (v3 + (1 : Int32)) σ12)
        refine J_bind fun x15 hx15 => ?_
        refine J_bind fun x16 hx16 => ?_
        refine J_bind fun x17 hx17 => ?_
        refine J_bind fun x18 hx18 => ?_
        refine q_J.step (fun g => j_if_f rfl (cc_lt_f h14) (j_aload_n rfl rfl (j_gfr rfl hx15 (j_iload_n rfl rfl (j_ial rfl hx16 (j_aload_n rfl rfl (j_gfr rfl hx17 (j_iload_n rfl rfl (j_ial rfl hx18 (g)))))))))) ?_
        refine J_ite (fun h19 => ?_) (fun h19 => ?_)
        · exact q_J.step (fun g => j_icmp_t rfl (cc_lt_t h19) (j_iinc [some (.ref v0), some (.int v1), some (.int v2), some (.int (v3 + (1 : Int32))), some (.int x13)] (v3 + (1 : Int32)) rfl rfl (by rw [k32_1]) (Or.inr rfl) rfl (j_goto rfl (j_weak (l := [some (.ref v0), some (.int v1), some (.int v2), some (.int (v3 + (1 : Int32))), none]) (And.intro (Or.inr rfl) (And.intro (Or.inr rfl) (And.intro (Or.inr rfl) (And.intro (Or.inr rfl) (And.intro (Or.inl rfl) True.intro))))) (g))))) (l_Mo_next_L11 hd v0 hX n v1 v2 (v3 + (1 : Int32)) σ12)
        refine J_bind fun x20 hx20 => ?_
        refine J_bind fun x21 hx21 => ?_
        refine J_bind fun x22 hx22 => ?_
        refine J_bind fun x23 hx23 => ?_
        refine q_J.step (fun g => j_icmp_f rfl (cc_lt_f h19) (j_aload_n rfl rfl (j_gfr rfl hx20 (j_iload_n rfl rfl (j_ial rfl hx21 (j_aload_n rfl rfl (j_gfr rfl hx22 (j_iload_n rfl rfl (j_ial rfl hx23 (g)))))))))) ?_
        refine J_ite (fun h24 => ?_) (fun h24 => ?_)
        · refine q_J.step (fun g => j_icmp_f rfl (cc_ne_f h24) (j_iload rfl rfl (j_iload_n rfl rfl (g)))) ?_
          refine J_ite (fun h25 => ?_) (fun h25 => ?_)
          · exact q_J.step (fun g => j_icmp_t rfl (cc_lt_t h25) (j_iload_n rfl rfl (j_istore_n [some (.ref v0), some (.int v3), some (.int v2), some (.int v3), some (.int x13)] rfl rfl (Or.inr rfl) rfl (j_iload rfl rfl (j_istore_n [some (.ref v0), some (.int v3), some (.int x13), some (.int v3), some (.int x13)] rfl rfl (Or.inr rfl) rfl (j_iinc [some (.ref v0), some (.int v3), some (.int x13), some (.int (v3 + (1 : Int32))), some (.int x13)] (v3 + (1 : Int32)) rfl rfl (by rw [k32_1]) (Or.inr rfl) rfl (j_goto rfl (j_weak (l := [some (.ref v0), some (.int v3), some (.int x13), some (.int (v3 + (1 : Int32))), none]) (And.intro (Or.inr rfl) (And.intro (Or.inr rfl) (And.intro (Or.inr rfl) (And.intro (Or.inr rfl) (And.intro (Or.inl rfl) True.intro))))) (g))))))))) (l_Mo_next_L11 hd v0 hX n v3 x13 (v3 + (1 : Int32)) σ12)
          exact q_J.step (fun g => j_icmp_f rfl (cc_lt_f h25) (j_goto rfl (j_iinc [some (.ref v0), some (.int v1), some (.int v2), some (.int (v3 + (1 : Int32))), some (.int x13)] (v3 + (1 : Int32)) rfl rfl (by rw [k32_1]) (Or.inr rfl) rfl (j_goto rfl (j_weak (l := [some (.ref v0), some (.int v1), some (.int v2), some (.int (v3 + (1 : Int32))), none]) (And.intro (Or.inr rfl) (And.intro (Or.inr rfl) (And.intro (Or.inr rfl) (And.intro (Or.inr rfl) (And.intro (Or.inl rfl) True.intro))))) (g)))))) (l_Mo_next_L11 hd v0 hX n v1 v2 (v3 + (1 : Int32)) σ12)
        exact q_J.step (fun g => j_icmp_t rfl (cc_ne_t h24) (j_iload_n rfl rfl (j_istore_n [some (.ref v0), some (.int v3), some (.int v2), some (.int v3), some (.int x13)] rfl rfl (Or.inr rfl) rfl (j_iload rfl rfl (j_istore_n [some (.ref v0), some (.int v3), some (.int x13), some (.int v3), some (.int x13)] rfl rfl (Or.inr rfl) rfl (j_iinc [some (.ref v0), some (.int v3), some (.int x13), some (.int (v3 + (1 : Int32))), some (.int x13)] (v3 + (1 : Int32)) rfl rfl (by rw [k32_1]) (Or.inr rfl) rfl (j_goto rfl (j_weak (l := [some (.ref v0), some (.int v3), some (.int x13), some (.int (v3 + (1 : Int32))), none]) (And.intro (Or.inr rfl) (And.intro (Or.inr rfl) (And.intro (Or.inr rfl) (And.intro (Or.inr rfl) (And.intro (Or.inl rfl) True.intro))))) (g))))))))) (l_Mo_next_L11 hd v0 hX n v3 x13 (v3 + (1 : Int32)) σ12)
      exact q_J.step (fun g => j_if_f rfl (cc_eq_f h8) (j_goto rfl (j_iinc [some (.ref v0), some (.int v1), some (.int v2), some (.int (v3 + (1 : Int32))), none] (v3 + (1 : Int32)) rfl rfl (by rw [k32_1]) (Or.inr rfl) rfl (j_goto rfl (g))))) (l_Mo_next_L11 hd v0 hX n v1 v2 (v3 + (1 : Int32)) σ)
    exact J_some (fun h => j_icmp_t rfl (cc_ge_t h2) (j_weak (l := [none, some (.int v1), none, none, none]) (And.intro (Or.inl rfl) (And.intro (Or.inr rfl) (And.intro (Or.inl rfl) (And.intro (Or.inl rfl) (And.intro (Or.inr rfl) True.intro))))) (hX _ _ h)))

def f_Mo_next (v0 : Nat) (σ : q_H) : Option ((Int32) × q_H) := (q_sf σ 12 v0 0 (.int (0 : Int32))).bind fun σ1 => q_sq (f_Mo_next_L11 v0 q_FU (-1 : Int32) (0 : Int32) (0 : Int32) σ1) fun (t26 : Int32) σ27 => some (t26, σ27)
set_option maxRecDepth 100000 in
theorem b_Mo_next {fo : Option Nat} {d : Nat} (hd : 7 ≤ d + 1) {o : q_O} {σ' : q_H} (v0 : Nat) (σ : q_H) : q_J (fun (r : Int32) (σ1 : q_H) => o = .inl (some (.int r)) ∧ σ' = σ1) (f_Mo_next v0 σ) (q_G (q_rf fo) d m_Mo_next o σ' 0 [some (.ref v0), none, none, none, none] [] σ) := by
  unfold f_Mo_next
  refine J_bind fun σ1 hσ1 => ?_
  refine J_sq (fun (t26 : Int32) (σ27 : q_H) => q_G (q_rf fo) d m_Mo_next o σ' 109 [none, some (.int t26), none, none, none] [] σ27) (q_J.step (fun g => j_aload_n rfl rfl (j_iconst (0 : Int32) rfl k32_0 (j_putf rfl rfl rfl rfl hσ1 (j_iconst (-1 : Int32) rfl k32_m1 (j_istore_n [some (.ref v0), some (.int (-1 : Int32)), none, none, none] rfl rfl (Or.inr rfl) rfl (j_iconst (0 : Int32) rfl k32_0 (j_istore_n [some (.ref v0), some (.int (-1 : Int32)), some (.int (0 : Int32)), none, none] rfl rfl (Or.inr rfl) rfl (j_iconst (0 : Int32) rfl k32_0 (j_istore_n [some (.ref v0), some (.int (-1 : Int32)), some (.int (0 : Int32)), some (.int (0 : Int32)), none] rfl rfl (Or.inr rfl) rfl (g)))))))))) (l_Mo_next_L11 hd v0 (fun _ _ h => h) q_FU (-1 : Int32) (0 : Int32) (0 : Int32) σ1)) (fun t26 σ27 => ?_)
  exact J_some (fun h => j_iload_n rfl rfl (j_iret rfl rfl h))
theorem t_Mo_next {fo : Option Nat} {d : Nat} (hd : 7 ≤ d) {v0 : Nat} {σ σ1 : q_H} {r : Int32} (h : f_Mo_next v0 σ = some (r, σ1)) : q_Rel (q_rf fo) q_Ms d 217 [.ref v0] σ (.inl (some (.int r))) σ1 := by
  obtain ⟨d, rfl⟩ : ∃ d1, d = d1 + 1 := ⟨d - 1, by omega⟩
  exact q_Rel.of rfl rfl (b_Mo_next hd _ σ _ _ h ⟨rfl, rfl⟩)

def f_Mo_leftIn_L66 (v0 : Nat) (v1 : Int32) (v2 : Int32) (v3 : Int32) (v5 : Int32) : Nat → Int32 → Int32 → q_H → Option ((Int32) × q_H)
  | 0, _, _, _ => none
  | n + 1, v4, v6, σ => (q_gr (q_gf σ 12 v0 7)).bind fun x17 => (q_gi (q_ga σ 20 x17 v5)).bind fun x18 => if v6 < x18 then ((q_gr (q_gf σ 12 v0 8)).bind fun x20 => (q_gi (q_ga σ 20 x20 (((12 : Int32) * v5) + v6))).bind fun x21 => if x21 = v2 then ((q_ob σ 12 v0).bind fun w23 => q_sq (f_Mo_leftOf v0 v1 v5 v6 σ) fun x25 σ24 => if x25 = v3 then (f_Mo_leftIn_L66 v0 v1 v2 v3 v5 n (v4 + (1 : Int32)) (v6 + (1 : Int32)) σ24) else (f_Mo_leftIn_L66 v0 v1 v2 v3 v5 n (v4 + (0 : Int32)) (v6 + (1 : Int32)) σ24)) else (f_Mo_leftIn_L66 v0 v1 v2 v3 v5 n (v4 + (0 : Int32)) (v6 + (1 : Int32)) σ)) else (some (v4, σ))
set_option maxRecDepth 100000 in
theorem l_Mo_leftIn_L66 {fo : Option Nat} {d : Nat} (hd : 7 ≤ d + 1) {o : q_O} {σ' : q_H} {E : (Int32) → q_H → Prop} (v0 : Nat) (v1 : Int32) (v2 : Int32) (v3 : Int32) (v5 : Int32) (hX : ∀ (t : Int32) σ1, E (t) σ1 → q_G (q_rf fo) d m_Mo_leftIn o σ' 124 [some (.ref v0), some (.int v1), some (.int v2), some (.int v3), some (.int t), some (.int v5), none] [] σ1)  : ∀ (n : Nat) (v4 : Int32) (v6 : Int32) (σ : q_H), q_J E (f_Mo_leftIn_L66 v0 v1 v2 v3 v5 n v4 v6 σ) (q_G (q_rf fo) d m_Mo_leftIn o σ' 66 [some (.ref v0), some (.int v1), some (.int v2), some (.int v3), some (.int v4), some (.int v5), some (.int v6)] [] σ)
  | 0, v4, v6, σ => J_none
  | n + 1, v4, v6, σ => by
    unfold f_Mo_leftIn_L66
    refine J_bind fun x17 hx17 => ?_
    refine J_bind fun x18 hx18 => ?_
    refine q_J.step (fun g => j_iload rfl rfl (j_aload_n rfl rfl (j_gfr rfl hx17 (j_iload rfl rfl (j_ial rfl hx18 (g)))))) ?_
    refine J_ite (fun h19 => ?_) (fun h19 => ?_)
    · refine J_bind fun x20 hx20 => ?_
      refine J_bind fun x21 hx21 => ?_
      refine q_J.step (fun g => j_icmp_f rfl (cc_ge_f h19) (j_iload rfl rfl (j_aload_n rfl rfl (j_gfr rfl hx20 (j_bipush (12 : Int32) rfl kb_12 (j_iload rfl rfl (j_imul rfl (j_iload rfl rfl (j_iadd rfl (j_ial rfl hx21 (j_iload_n rfl rfl (g)))))))))))) ?_
      refine J_ite (fun h22 => ?_) (fun h22 => ?_)
      · refine J_bind fun w23 hw23 => ?_
        refine J_cl fun x25 σ24 hσ24 => ?_
        refine q_J.step (fun g => j_icmp_f rfl (cc_ne_f h22) (j_aload_n rfl rfl (j_iload_n rfl rfl (j_iload rfl rfl (j_iload rfl rfl (j_v1 [.ref v0, .int v1, .int v5, .int v6] [.int v4] rfl rfl rfl rfl rfl rfl hw23 (Or.inl rfl) (t_Mo_leftOf (by omega) hσ24) (j_iload_n rfl rfl (g)))))))) ?_
        refine J_ite (fun h26 => ?_) (fun h26 => ?_)
        · exact q_J.step (fun g => j_icmp_f rfl (cc_ne_f h26) (j_iconst (1 : Int32) rfl k32_1 (j_goto rfl (j_iadd rfl (j_istore [some (.ref v0), some (.int v1), some (.int v2), some (.int v3), some (.int (v4 + (1 : Int32))), some (.int v5), some (.int v6)] rfl rfl (Or.inr rfl) rfl (j_iinc [some (.ref v0), some (.int v1), some (.int v2), some (.int v3), some (.int (v4 + (1 : Int32))), some (.int v5), some (.int (v6 + (1 : Int32)))] (v6 + (1 : Int32)) rfl rfl (by rw [k32_1]) (Or.inr rfl) rfl (j_goto rfl (g)))))))) (l_Mo_leftIn_L66 hd v0 v1 v2 v3 v5 hX n (v4 + (1 : Int32)) (v6 + (1 : Int32)) σ24)
        exact q_J.step (fun g => j_icmp_t rfl (cc_ne_t h26) (j_iconst (0 : Int32) rfl k32_0 (j_iadd rfl (j_istore [some (.ref v0), some (.int v1), some (.int v2), some (.int v3), some (.int (v4 + (0 : Int32))), some (.int v5), some (.int v6)] rfl rfl (Or.inr rfl) rfl (j_iinc [some (.ref v0), some (.int v1), some (.int v2), some (.int v3), some (.int (v4 + (0 : Int32))), some (.int v5), some (.int (v6 + (1 : Int32)))] (v6 + (1 : Int32)) rfl rfl (by rw [k32_1]) (Or.inr rfl) rfl (j_goto rfl (g))))))) (l_Mo_leftIn_L66 hd v0 v1 v2 v3 v5 hX n (v4 + (0 : Int32)) (v6 + (1 : Int32)) σ24)
      exact q_J.step (fun g => j_icmp_t rfl (cc_ne_t h22) (j_iconst (0 : Int32) rfl k32_0 (j_iadd rfl (j_istore [some (.ref v0), some (.int v1), some (.int v2), some (.int v3), some (.int (v4 + (0 : Int32))), some (.int v5), some (.int v6)] rfl rfl (Or.inr rfl) rfl (j_iinc [some (.ref v0), some (.int v1), some (.int v2), some (.int v3), some (.int (v4 + (0 : Int32))), some (.int v5), some (.int (v6 + (1 : Int32)))] (v6 + (1 : Int32)) rfl rfl (by rw [k32_1]) (Or.inr rfl) rfl (j_goto rfl (g))))))) (l_Mo_leftIn_L66 hd v0 v1 v2 v3 v5 hX n (v4 + (0 : Int32)) (v6 + (1 : Int32)) σ)
    exact J_some (fun h => j_icmp_t rfl (cc_ge_t h19) (j_weak (l := [some (.ref v0), some (.int v1), some (.int v2), some (.int v3), some (.int v4), some (.int v5), none]) (And.intro (Or.inr rfl) (And.intro (Or.inr rfl) (And.intro (Or.inr rfl) (And.intro (Or.inr rfl) (And.intro (Or.inr rfl) (And.intro (Or.inr rfl) (And.intro (Or.inl rfl) True.intro))))))) (hX _ _ h)))

def f_Mo_leftIn_L6 (v0 : Nat) (v1 : Int32) (v2 : Int32) (v3 : Int32) : Nat → Int32 → Int32 → q_H → Option ((Int32) × q_H)
  | 0, _, _, _ => none
  | n + 1, v4, v5, σ => if v5 < (24 : Int32) then (if v5 = v1 then (f_Mo_leftIn_L6 v0 v1 v2 v3 n v4 (v5 + (1 : Int32)) σ) else ((q_ob σ 12 v0).bind fun w3 => q_sq (f_Mo_isThere v0 v5 σ) fun x5 σ4 => if x5 = (0 : Int32) then (f_Mo_leftIn_L6 v0 v1 v2 v3 n v4 (v5 + (1 : Int32)) σ4) else ((q_gr (q_gf σ4 12 v0 27)).bind fun x7 => (q_gi (q_ga σ4 20 x7 v5)).bind fun x8 => (q_gr (q_gf σ4 12 v0 27)).bind fun x9 => (q_gi (q_ga σ4 20 x9 v1)).bind fun x10 => if x8 = x10 then ((q_gr (q_gf σ4 12 v0 5)).bind fun x12 => (q_gi (q_ga σ4 20 x12 v5)).bind fun x13 => (q_gr (q_gf σ4 12 v0 5)).bind fun x14 => (q_gi (q_ga σ4 20 x14 v1)).bind fun x15 => if x15 < x13 then (q_sq (f_Mo_leftIn_L66 v0 v1 v2 v3 v5 q_FU v4 (0 : Int32) σ4) fun (t27 : Int32) σ28 => f_Mo_leftIn_L6 v0 v1 v2 v3 n t27 (v5 + (1 : Int32)) σ28) else (f_Mo_leftIn_L6 v0 v1 v2 v3 n v4 (v5 + (1 : Int32)) σ4)) else (f_Mo_leftIn_L6 v0 v1 v2 v3 n v4 (v5 + (1 : Int32)) σ4)))) else (some (v4, σ))
set_option maxRecDepth 100000 in
theorem l_Mo_leftIn_L6 {fo : Option Nat} {d : Nat} (hd : 7 ≤ d + 1) {o : q_O} {σ' : q_H} {E : (Int32) → q_H → Prop} (v0 : Nat) (v1 : Int32) (v2 : Int32) (v3 : Int32) (hX : ∀ (t : Int32) σ1, E (t) σ1 → q_G (q_rf fo) d m_Mo_leftIn o σ' 130 [none, none, none, none, some (.int t), none, none] [] σ1)  : ∀ (n : Nat) (v4 : Int32) (v5 : Int32) (σ : q_H), q_J E (f_Mo_leftIn_L6 v0 v1 v2 v3 n v4 v5 σ) (q_G (q_rf fo) d m_Mo_leftIn o σ' 6 [some (.ref v0), some (.int v1), some (.int v2), some (.int v3), some (.int v4), some (.int v5), none] [] σ)
  | 0, v4, v5, σ => J_none
  | n + 1, v4, v5, σ => by
    unfold f_Mo_leftIn_L6
    refine q_J.step (fun g => j_iload rfl rfl (j_bipush (24 : Int32) rfl kb_24 (g))) ?_
    refine J_ite (fun h1 => ?_) (fun h1 => ?_)
    · refine q_J.step (fun g => j_icmp_f rfl (cc_ge_f h1) (j_iload rfl rfl (j_iload_n rfl rfl (g)))) ?_
      refine J_ite (fun h2 => ?_) (fun h2 => ?_)
      · exact q_J.step (fun g => j_icmp_t rfl (cc_eq_t h2) (j_iinc [some (.ref v0), some (.int v1), some (.int v2), some (.int v3), some (.int v4), some (.int (v5 + (1 : Int32))), none] (v5 + (1 : Int32)) rfl rfl (by rw [k32_1]) (Or.inr rfl) rfl (j_goto rfl (g)))) (l_Mo_leftIn_L6 hd v0 v1 v2 v3 hX n v4 (v5 + (1 : Int32)) σ)
      refine J_bind fun w3 hw3 => ?_
      refine J_cl fun x5 σ4 hσ4 => ?_
      refine q_J.step (fun g => j_icmp_f rfl (cc_eq_f h2) (j_aload_n rfl rfl (j_iload rfl rfl (j_v1 [.ref v0, .int v5] [] rfl rfl rfl rfl rfl rfl hw3 (Or.inl rfl) (t_Mo_isThere (by omega) hσ4) (g))))) ?_
      refine J_ite (fun h6 => ?_) (fun h6 => ?_)
      · exact q_J.step (fun g => j_if_t rfl (cc_eq_t h6) (j_iinc [some (.ref v0), some (.int v1), some (.int v2), some (.int v3), some (.int v4), some (.int (v5 + (1 : Int32))), none] (v5 + (1 : Int32)) rfl rfl (by rw [k32_1]) (Or.inr rfl) rfl (j_goto rfl (g)))) (l_Mo_leftIn_L6 hd v0 v1 v2 v3 hX n v4 (v5 + (1 : Int32)) σ4)
      refine J_bind fun x7 hx7 => ?_
      refine J_bind fun x8 hx8 => ?_
      refine J_bind fun x9 hx9 => ?_
      refine J_bind fun x10 hx10 => ?_
      refine q_J.step (fun g => j_if_f rfl (cc_eq_f h6) (j_aload_n rfl rfl (j_gfr rfl hx7 (j_iload rfl rfl (j_ial rfl hx8 (j_aload_n rfl rfl (j_gfr rfl hx9 (j_iload_n rfl rfl (j_ial rfl hx10 (g)))))))))) ?_
      refine J_ite (fun h11 => ?_) (fun h11 => ?_)
      · refine J_bind fun x12 hx12 => ?_
        refine J_bind fun x13 hx13 => ?_
        refine J_bind fun x14 hx14 => ?_
        refine J_bind fun x15 hx15 => ?_
        refine q_J.step (fun g => j_icmp_f rfl (cc_ne_f h11) (j_aload_n rfl rfl (j_gfr rfl hx12 (j_iload rfl rfl (j_ial rfl hx13 (j_aload_n rfl rfl (j_gfr rfl hx14 (j_iload_n rfl rfl (j_ial rfl hx15 (g)))))))))) ?_
        refine J_ite (fun h16 => ?_) (fun h16 => ?_)
        · refine J_sq (fun (t27 : Int32) (σ28 : q_H) => q_G (q_rf fo) d m_Mo_leftIn o σ' 124 [some (.ref v0), some (.int v1), some (.int v2), some (.int v3), some (.int t27), some (.int v5), none] [] σ28) (q_J.step (fun g => j_icmp_t rfl (cc_gt_t h16) (j_iconst (0 : Int32) rfl k32_0 (j_istore [some (.ref v0), some (.int v1), some (.int v2), some (.int v3), some (.int v4), some (.int v5), some (.int (0 : Int32))] rfl rfl (Or.inr rfl) rfl (g)))) (l_Mo_leftIn_L66 hd v0 v1 v2 v3 v5 (fun _ _ h => h) q_FU v4 (0 : Int32) σ4)) (fun t27 σ28 => ?_)
          exact q_J.step (fun g => j_iinc [some (.ref v0), some (.int v1), some (.int v2), some (.int v3), some (.int t27), some (.int (v5 + (1 : Int32))), none] (v5 + (1 : Int32)) rfl rfl (by rw [k32_1]) (Or.inr rfl) rfl (j_goto rfl (g))) (l_Mo_leftIn_L6 hd v0 v1 v2 v3 hX n t27 (v5 + (1 : Int32)) σ28)
        exact q_J.step (fun g => j_icmp_f rfl (cc_gt_f h16) (j_goto rfl (j_iinc [some (.ref v0), some (.int v1), some (.int v2), some (.int v3), some (.int v4), some (.int (v5 + (1 : Int32))), none] (v5 + (1 : Int32)) rfl rfl (by rw [k32_1]) (Or.inr rfl) rfl (j_goto rfl (g))))) (l_Mo_leftIn_L6 hd v0 v1 v2 v3 hX n v4 (v5 + (1 : Int32)) σ4)
      exact q_J.step (fun g => j_icmp_t rfl (cc_ne_t h11) (j_iinc [some (.ref v0), some (.int v1), some (.int v2), some (.int v3), some (.int v4), some (.int (v5 + (1 : Int32))), none] (v5 + (1 : Int32)) rfl rfl (by rw [k32_1]) (Or.inr rfl) rfl (j_goto rfl (g)))) (l_Mo_leftIn_L6 hd v0 v1 v2 v3 hX n v4 (v5 + (1 : Int32)) σ4)
    exact J_some (fun h => j_icmp_t rfl (cc_ge_t h1) (j_weak (l := [none, none, none, none, some (.int v4), none, none]) (And.intro (Or.inl rfl) (And.intro (Or.inl rfl) (And.intro (Or.inl rfl) (And.intro (Or.inl rfl) (And.intro (Or.inr rfl) (And.intro (Or.inl rfl) (And.intro (Or.inr rfl) True.intro))))))) (hX _ _ h)))

def f_Mo_leftIn (v0 : Nat) (v1 : Int32) (v2 : Int32) (v3 : Int32) (σ : q_H) : Option ((Int32) × q_H) := q_sq (f_Mo_leftIn_L6 v0 v1 v2 v3 q_FU (0 : Int32) (0 : Int32) σ) fun (t29 : Int32) σ30 => some (t29, σ30)
set_option maxRecDepth 100000 in
theorem b_Mo_leftIn {fo : Option Nat} {d : Nat} (hd : 7 ≤ d + 1) {o : q_O} {σ' : q_H} (v0 : Nat) (v1 : Int32) (v2 : Int32) (v3 : Int32) (σ : q_H) : q_J (fun (r : Int32) (σ1 : q_H) => o = .inl (some (.int r)) ∧ σ' = σ1) (f_Mo_leftIn v0 v1 v2 v3 σ) (q_G (q_rf fo) d m_Mo_leftIn o σ' 0 [some (.ref v0), some (.int v1), some (.int v2), some (.int v3), none, none, none] [] σ) := by
  unfold f_Mo_leftIn
  refine J_sq (fun (t29 : Int32) (σ30 : q_H) => q_G (q_rf fo) d m_Mo_leftIn o σ' 130 [none, none, none, none, some (.int t29), none, none] [] σ30) (q_J.step (fun g => j_iconst (0 : Int32) rfl k32_0 (j_istore [some (.ref v0), some (.int v1), some (.int v2), some (.int v3), some (.int (0 : Int32)), none, none] rfl rfl (Or.inr rfl) rfl (j_iconst (0 : Int32) rfl k32_0 (j_istore [some (.ref v0), some (.int v1), some (.int v2), some (.int v3), some (.int (0 : Int32)), some (.int (0 : Int32)), none] rfl rfl (Or.inr rfl) rfl (g))))) (l_Mo_leftIn_L6 hd v0 v1 v2 v3 (fun _ _ h => h) q_FU (0 : Int32) (0 : Int32) σ)) (fun t29 σ30 => ?_)
  exact J_some (fun h => j_iload rfl rfl (j_iret rfl rfl h))
theorem t_Mo_leftIn {fo : Option Nat} {d : Nat} (hd : 7 ≤ d) {v0 : Nat} {v1 : Int32} {v2 : Int32} {v3 : Int32} {σ σ1 : q_H} {r : Int32} (h : f_Mo_leftIn v0 v1 v2 v3 σ = some (r, σ1)) : q_Rel (q_rf fo) q_Ms d 230 [.ref v0, .int v1, .int v2, .int v3] σ (.inl (some (.int r))) σ1 := by
  obtain ⟨d, rfl⟩ : ∃ d1, d = d1 + 1 := ⟨d - 1, by omega⟩
  exact q_Rel.of rfl rfl (b_Mo_leftIn hd _ _ _ _ σ _ _ h ⟨rfl, rfl⟩)

def f_Mo_sisters_L56 (v0 : Nat) (v1 : Int32) (v2 : Int32) (v3 : Int32) (v4 : Int64) (v8 : Int32) : Nat → Int64 → Int32 → q_H → Option ((Int64) × q_H)
  | 0, _, _, _ => none
  | n + 1, v6, v9, σ => (q_ob σ 12 v0).bind fun w12 => q_sq (f_Mo_isThere v0 v8 σ) fun x14 σ13 => if x14 = (0 : Int32) then (some (v6, σ13)) else ((q_gr (q_gf σ13 12 v0 7)).bind fun x16 => (q_gi (q_ga σ13 20 x16 v8)).bind fun x17 => if v9 < x17 then ((q_ob σ13 12 v0).bind fun w19 => q_sq (f_Mo_isWife v0 v8 v9 σ13) fun x21 σ20 => if x21 = (0 : Int32) then (f_Mo_sisters_L56 v0 v1 v2 v3 v4 v8 n v6 (v9 + (1 : Int32)) σ20) else ((q_gr (q_gf σ20 12 v0 9)).bind fun x23 => (q_ob σ20 12 v0).bind fun w24 => q_sq (f_Mo_husband v0 v8 v9 σ20) fun x26 σ25 => (q_gi (q_ga σ25 20 x23 x26)).bind fun x27 => (q_ob σ25 12 v0).bind fun w28 => q_sq (f_Mo_couldOf v0 v1 x27 v2 σ25) fun x30 σ29 => (q_gl' (q_gf σ29 12 v0 34)).bind fun x31 => if x31 = 0 then none else f_Mo_sisters_L56 v0 v1 v2 v3 v4 v8 n (v6 + (x30 * (v4 / x31))) (v9 + (1 : Int32)) σ29)) else (some (v6, σ13)))
set_option maxRecDepth 100000 in
theorem l_Mo_sisters_L56 {fo : Option Nat} {d : Nat} (hd : 7 ≤ d + 1) {o : q_O} {σ' : q_H} {E : (Int64) → q_H → Prop} (v0 : Nat) (v1 : Int32) (v2 : Int32) (v3 : Int32) (v4 : Int64) (v8 : Int32) (hX : ∀ (t : Int64) σ1, E (t) σ1 → q_G (q_rf fo) d m_Mo_sisters o σ' 133 [some (.ref v0), some (.int v1), some (.int v2), some (.int v3), some (.long v4), none, some (.long t), none, some (.int v8), none, none, none] [] σ1)  : ∀ (n : Nat) (v6 : Int64) (v9 : Int32) (σ : q_H), q_J E (f_Mo_sisters_L56 v0 v1 v2 v3 v4 v8 n v6 v9 σ) (q_G (q_rf fo) d m_Mo_sisters o σ' 56 [some (.ref v0), some (.int v1), some (.int v2), some (.int v3), some (.long v4), none, some (.long v6), none, some (.int v8), some (.int v9), none, none] [] σ)
  | 0, v6, v9, σ => J_none
  | n + 1, v6, v9, σ => by
    unfold f_Mo_sisters_L56
    refine J_bind fun w12 hw12 => ?_
    refine J_cl fun x14 σ13 hσ13 => ?_
    refine q_J.step (fun g => j_aload_n rfl rfl (j_iload rfl rfl (j_v1 [.ref v0, .int v8] [] rfl rfl rfl rfl rfl rfl hw12 (Or.inl rfl) (t_Mo_isThere (by omega) hσ13) (g)))) ?_
    refine J_ite (fun h15 => ?_) (fun h15 => ?_)
    · exact J_some (fun h => j_if_t rfl (cc_eq_t h15) (j_weak (l := [some (.ref v0), some (.int v1), some (.int v2), some (.int v3), some (.long v4), none, some (.long v6), none, some (.int v8), none, none, none]) (And.intro (Or.inr rfl) (And.intro (Or.inr rfl) (And.intro (Or.inr rfl) (And.intro (Or.inr rfl) (And.intro (Or.inr rfl) (And.intro (Or.inr rfl) (And.intro (Or.inr rfl) (And.intro (Or.inr rfl) (And.intro (Or.inr rfl) (And.intro (Or.inl rfl) (And.intro (Or.inr rfl) (And.intro (Or.inr rfl) True.intro)))))))))))) (hX _ _ h)))
    refine J_bind fun x16 hx16 => ?_
    refine J_bind fun x17 hx17 => ?_
    refine q_J.step (fun g => j_if_f rfl (cc_eq_f h15) (j_iload rfl rfl (j_aload_n rfl rfl (j_gfr rfl hx16 (j_iload rfl rfl (j_ial rfl hx17 (g))))))) ?_
    refine J_ite (fun h18 => ?_) (fun h18 => ?_)
    · refine J_bind fun w19 hw19 => ?_
      refine J_cl fun x21 σ20 hσ20 => ?_
      refine q_J.step (fun g => j_icmp_f rfl (cc_ge_f h18) (j_aload_n rfl rfl (j_iload rfl rfl (j_iload rfl rfl (j_v1 [.ref v0, .int v8, .int v9] [] rfl rfl rfl rfl rfl rfl hw19 (Or.inl rfl) (t_Mo_isWife (by omega) hσ20) (g)))))) ?_
      refine J_ite (fun h22 => ?_) (fun h22 => ?_)
      · exact q_J.step (fun g => j_if_f rfl (cc_ne_f h22) (j_goto rfl (j_iinc [some (.ref v0), some (.int v1), some (.int v2), some (.int v3), some (.long v4), none, some (.long v6), none, some (.int v8), some (.int (v9 + (1 : Int32))), none, none] (v9 + (1 : Int32)) rfl rfl (by rw [k32_1]) (Or.inr rfl) rfl (j_goto rfl (g))))) (l_Mo_sisters_L56 hd v0 v1 v2 v3 v4 v8 hX n v6 (v9 + (1 : Int32)) σ20)
      refine J_bind fun x23 hx23 => ?_
      refine J_bind fun w24 hw24 => ?_
      refine J_cl fun x26 σ25 hσ25 => ?_
      refine J_bind fun x27 hx27 => ?_
      refine J_bind fun w28 hw28 => ?_
      refine J_cl fun x30 σ29 hσ29 => ?_
      refine J_bind fun x31 hx31 => ?_
      refine q_J.step (fun g => j_if_t rfl (cc_ne_t h22) (j_aload_n rfl rfl (j_iload_n rfl rfl (j_aload_n rfl rfl (j_gfr rfl hx23 (j_aload_n rfl rfl (j_iload rfl rfl (j_iload rfl rfl (j_v1 [.ref v0, .int v8, .int v9] [.ref x23, .int v1, .ref v0] rfl rfl rfl rfl rfl rfl hw24 (Or.inl rfl) (t_Mo_husband (by omega) hσ25) (j_ial rfl hx27 (j_iload_n rfl rfl (j_v1 [.ref v0, .int v1, .int x27, .int v2] [] rfl rfl rfl rfl rfl rfl hw28 (Or.inl rfl) (t_Mo_couldOf (by omega) hσ29) (j_lstore [some (.ref v0), some (.int v1), some (.int v2), some (.int v3), some (.long v4), none, some (.long v6), none, some (.int v8), some (.int v9), some (.long x30), none] rfl rfl (Or.inr rfl) rfl (j_lload rfl rfl (g))))))))))))))) ?_
      refine q_J.step (fun g => j_lload rfl rfl (j_lload rfl rfl (j_aload_n rfl rfl (j_gfl rfl hx31 (g))))) ?_
      refine J_ite (fun _ => J_none) (fun h32 => ?_)
      exact q_J.step (fun g => j_ldiv rfl h32 (j_lmul rfl (j_ladd rfl (j_lstore [some (.ref v0), some (.int v1), some (.int v2), some (.int v3), some (.long v4), none, some (.long (v6 + (x30 * (v4 / x31)))), none, some (.int v8), some (.int v9), some (.long x30), none] rfl rfl (Or.inr True.intro) rfl (j_iinc [some (.ref v0), some (.int v1), some (.int v2), some (.int v3), some (.long v4), none, some (.long (v6 + (x30 * (v4 / x31)))), none, some (.int v8), some (.int (v9 + (1 : Int32))), some (.long x30), none] (v9 + (1 : Int32)) rfl rfl (by rw [k32_1]) (Or.inr rfl) rfl (j_goto rfl (j_weak (l := [some (.ref v0), some (.int v1), some (.int v2), some (.int v3), some (.long v4), none, some (.long (v6 + (x30 * (v4 / x31)))), none, some (.int v8), some (.int (v9 + (1 : Int32))), none, none]) (And.intro (Or.inr rfl) (And.intro (Or.inr rfl) (And.intro (Or.inr rfl) (And.intro (Or.inr rfl) (And.intro (Or.inr rfl) (And.intro (Or.inr rfl) (And.intro (Or.inr rfl) (And.intro (Or.inr rfl) (And.intro (Or.inr rfl) (And.intro (Or.inr rfl) (And.intro (Or.inl rfl) (And.intro (Or.inr rfl) True.intro)))))))))))) (g)))))))) (l_Mo_sisters_L56 hd v0 v1 v2 v3 v4 v8 hX n (v6 + (x30 * (v4 / x31))) (v9 + (1 : Int32)) σ29)
    exact J_some (fun h => j_icmp_t rfl (cc_ge_t h18) (j_weak (l := [some (.ref v0), some (.int v1), some (.int v2), some (.int v3), some (.long v4), none, some (.long v6), none, some (.int v8), none, none, none]) (And.intro (Or.inr rfl) (And.intro (Or.inr rfl) (And.intro (Or.inr rfl) (And.intro (Or.inr rfl) (And.intro (Or.inr rfl) (And.intro (Or.inr rfl) (And.intro (Or.inr rfl) (And.intro (Or.inr rfl) (And.intro (Or.inr rfl) (And.intro (Or.inl rfl) (And.intro (Or.inr rfl) (And.intro (Or.inr rfl) True.intro)))))))))))) (hX _ _ h)))

def f_Mo_sisters_L46 (v0 : Nat) (v1 : Int32) (v2 : Int32) (v3 : Int32) (v4 : Int64) : Nat → Int64 → Int32 → q_H → Option ((Int64) × q_H)
  | 0, _, _, _ => none
  | n + 1, v6, v8, σ => if v8 < (24 : Int32) then (q_sq (f_Mo_sisters_L56 v0 v1 v2 v3 v4 v8 q_FU v6 (0 : Int32) σ) fun (t33 : Int64) σ34 => f_Mo_sisters_L46 v0 v1 v2 v3 v4 n t33 (v8 + (1 : Int32)) σ34) else (some (v6, σ))
set_option maxRecDepth 100000 in
theorem l_Mo_sisters_L46 {fo : Option Nat} {d : Nat} (hd : 7 ≤ d + 1) {o : q_O} {σ' : q_H} {E : (Int64) → q_H → Prop} (v0 : Nat) (v1 : Int32) (v2 : Int32) (v3 : Int32) (v4 : Int64) (hX : ∀ (t : Int64) σ1, E (t) σ1 → q_G (q_rf fo) d m_Mo_sisters o σ' 139 [some (.ref v0), none, none, some (.int v3), some (.long v4), none, some (.long t), none, none, none, none, none] [] σ1)  : ∀ (n : Nat) (v6 : Int64) (v8 : Int32) (σ : q_H), q_J E (f_Mo_sisters_L46 v0 v1 v2 v3 v4 n v6 v8 σ) (q_G (q_rf fo) d m_Mo_sisters o σ' 46 [some (.ref v0), some (.int v1), some (.int v2), some (.int v3), some (.long v4), none, some (.long v6), none, some (.int v8), none, none, none] [] σ)
  | 0, v6, v8, σ => J_none
  | n + 1, v6, v8, σ => by
    unfold f_Mo_sisters_L46
    refine q_J.step (fun g => j_iload rfl rfl (j_bipush (24 : Int32) rfl kb_24 (g))) ?_
    refine J_ite (fun h11 => ?_) (fun h11 => ?_)
    · refine J_sq (fun (t33 : Int64) (σ34 : q_H) => q_G (q_rf fo) d m_Mo_sisters o σ' 133 [some (.ref v0), some (.int v1), some (.int v2), some (.int v3), some (.long v4), none, some (.long t33), none, some (.int v8), none, none, none] [] σ34) (q_J.step (fun g => j_icmp_f rfl (cc_ge_f h11) (j_iconst (0 : Int32) rfl k32_0 (j_istore [some (.ref v0), some (.int v1), some (.int v2), some (.int v3), some (.long v4), none, some (.long v6), none, some (.int v8), some (.int (0 : Int32)), none, none] rfl rfl (Or.inr rfl) rfl (g)))) (l_Mo_sisters_L56 hd v0 v1 v2 v3 v4 v8 (fun _ _ h => h) q_FU v6 (0 : Int32) σ)) (fun t33 σ34 => ?_)
      exact q_J.step (fun g => j_iinc [some (.ref v0), some (.int v1), some (.int v2), some (.int v3), some (.long v4), none, some (.long t33), none, some (.int (v8 + (1 : Int32))), none, none, none] (v8 + (1 : Int32)) rfl rfl (by rw [k32_1]) (Or.inr True.intro) rfl (j_goto rfl (g))) (l_Mo_sisters_L46 hd v0 v1 v2 v3 v4 hX n t33 (v8 + (1 : Int32)) σ34)
    exact J_some (fun h => j_icmp_t rfl (cc_ge_t h11) (j_weak (l := [some (.ref v0), none, none, some (.int v3), some (.long v4), none, some (.long v6), none, none, none, none, none]) (And.intro (Or.inr rfl) (And.intro (Or.inl rfl) (And.intro (Or.inl rfl) (And.intro (Or.inr rfl) (And.intro (Or.inr rfl) (And.intro (Or.inr rfl) (And.intro (Or.inr rfl) (And.intro (Or.inr rfl) (And.intro (Or.inl rfl) (And.intro (Or.inr rfl) (And.intro (Or.inr rfl) (And.intro (Or.inr rfl) True.intro)))))))))))) (hX _ _ h)))

def f_Mo_sisters (v0 : Nat) (v1 : Int32) (v2 : Int32) (v3 : Int32) (σ : q_H) : Option ((Int64) × q_H) := (q_sf σ 12 v0 0 (.int (0 : Int32))).bind fun σ1 => q_sq (f_Mo_isTable v1 σ1) fun x3 σ2 => if x3 = (0 : Int32) then (some ((-1 : Int64), σ2)) else (q_sq (f_Mo_within v2 (0 : Int32) (30 : Int32) σ2) fun x6 σ5 => if x6 = (0 : Int32) then (some ((-1 : Int64), σ5)) else (q_sq (f_Mo_within v3 (0 : Int32) (1 : Int32) σ5) fun x9 σ8 => if x9 = (0 : Int32) then (some ((-1 : Int64), σ8)) else (q_sq (f_Mo_sisters_L46 v0 v1 v2 v3 (10000000000000000 : Int64) q_FU (0 : Int64) (0 : Int32) σ8) fun (t35 : Int64) σ36 => (q_ob σ36 12 v0).bind fun w37 => q_sq (f_Mo_countOf v0 (0 : Int32) (0 : Int32) (-1 : Int32) (1 : Int32) (2 : Int32) σ36) fun x39 σ38 => if v3 = (0 : Int32) then (some (t35, σ38)) else (if (0 : Int64) < ((x39.toInt64 * (10000000000000000 : Int64)) - t35) then (some ((((((x39.toInt64 * (10000000000000000 : Int64)) - t35) + (10000000000000000 : Int64)) - (1 : Int64)) / (10000000000000000 : Int64)), σ38)) else (some ((0 : Int64), σ38))))))
set_option maxRecDepth 100000 in
theorem b_Mo_sisters {fo : Option Nat} {d : Nat} (hd : 7 ≤ d + 1) {o : q_O} {σ' : q_H} (v0 : Nat) (v1 : Int32) (v2 : Int32) (v3 : Int32) (σ : q_H) : q_J (fun (r : Int64) (σ1 : q_H) => o = .inl (some (.long r)) ∧ σ' = σ1) (f_Mo_sisters v0 v1 v2 v3 σ) (q_G (q_rf fo) d m_Mo_sisters o σ' 0 [some (.ref v0), some (.int v1), some (.int v2), some (.int v3), none, none, none, none, none, none, none, none] [] σ) := by
  unfold f_Mo_sisters
  refine J_bind fun σ1 hσ1 => ?_
  refine J_cl fun x3 σ2 hσ2 => ?_
  refine q_J.step (fun g => j_aload_n rfl rfl (j_iconst (0 : Int32) rfl k32_0 (j_putf rfl rfl rfl rfl hσ1 (j_iload_n rfl rfl (j_s1 [.int v1] [] rfl rfl rfl rfl rfl (t_Mo_isTable (by omega) hσ2) (g)))))) ?_
  refine J_ite (fun h4 => ?_) (fun h4 => ?_)
  · exact J_some (fun h => j_if_t rfl (cc_eq_t h4) (j_ldc2 (-1 : Int64) rfl kw_m1 (j_lret rfl rfl h)))
  refine J_cl fun x6 σ5 hσ5 => ?_
  refine q_J.step (fun g => j_if_f rfl (cc_eq_f h4) (j_iload_n rfl rfl (j_iconst (0 : Int32) rfl k32_0 (j_bipush (30 : Int32) rfl kb_30 (j_s1 [.int v2, .int (0 : Int32), .int (30 : Int32)] [] rfl rfl rfl rfl rfl (t_Mo_within (by omega) hσ5) (g)))))) ?_
  refine J_ite (fun h7 => ?_) (fun h7 => ?_)
  · exact J_some (fun h => j_if_t rfl (cc_eq_t h7) (j_ldc2 (-1 : Int64) rfl kw_m1 (j_lret rfl rfl h)))
  refine J_cl fun x9 σ8 hσ8 => ?_
  refine q_J.step (fun g => j_if_f rfl (cc_eq_f h7) (j_iload_n rfl rfl (j_iconst (0 : Int32) rfl k32_0 (j_iconst (1 : Int32) rfl k32_1 (j_s1 [.int v3, .int (0 : Int32), .int (1 : Int32)] [] rfl rfl rfl rfl rfl (t_Mo_within (by omega) hσ8) (g)))))) ?_
  refine J_ite (fun h10 => ?_) (fun h10 => ?_)
  · exact J_some (fun h => j_if_f rfl (cc_ne_f h10) (j_ldc2 (-1 : Int64) rfl kw_m1 (j_lret rfl rfl h)))
  refine J_sq (fun (t35 : Int64) (σ36 : q_H) => q_G (q_rf fo) d m_Mo_sisters o σ' 139 [some (.ref v0), none, none, some (.int v3), some (.long (10000000000000000 : Int64)), none, some (.long t35), none, none, none, none, none] [] σ36) (q_J.step (fun g => j_if_t rfl (cc_ne_t h10) (j_ldc2 (10000000000000000 : Int64) rfl kw_10000000000000000 (j_lstore [some (.ref v0), some (.int v1), some (.int v2), some (.int v3), some (.long (10000000000000000 : Int64)), none, none, none, none, none, none, none] rfl rfl (Or.inr rfl) rfl (j_lconst (0 : Int64) rfl kl_0 (j_lstore [some (.ref v0), some (.int v1), some (.int v2), some (.int v3), some (.long (10000000000000000 : Int64)), none, some (.long (0 : Int64)), none, none, none, none, none] rfl rfl (Or.inr True.intro) rfl (j_iconst (0 : Int32) rfl k32_0 (j_istore [some (.ref v0), some (.int v1), some (.int v2), some (.int v3), some (.long (10000000000000000 : Int64)), none, some (.long (0 : Int64)), none, some (.int (0 : Int32)), none, none, none] rfl rfl (Or.inr True.intro) rfl (g)))))))) (l_Mo_sisters_L46 hd v0 v1 v2 v3 (10000000000000000 : Int64) (fun _ _ h => h) q_FU (0 : Int64) (0 : Int32) σ8)) (fun t35 σ36 => ?_)
  refine J_bind fun w37 hw37 => ?_
  refine J_cl fun x39 σ38 hσ38 => ?_
  refine q_J.step (fun g => j_aload_n rfl rfl (j_iconst (0 : Int32) rfl k32_0 (j_iconst (0 : Int32) rfl k32_0 (j_iconst (-1 : Int32) rfl k32_m1 (j_iconst (1 : Int32) rfl k32_1 (j_iconst (2 : Int32) rfl k32_2 (j_v1 [.ref v0, .int (0 : Int32), .int (0 : Int32), .int (-1 : Int32), .int (1 : Int32), .int (2 : Int32)] [] rfl rfl rfl rfl rfl rfl hw37 (Or.inl rfl) (t_Mo_countOf (by omega) hσ38) (j_i2l rfl (j_lload rfl rfl (j_lmul rfl (j_lload rfl rfl (j_lsub rfl (j_lstore [some (.ref v0), none, none, some (.int v3), some (.long (10000000000000000 : Int64)), none, some (.long t35), none, some (.long ((x39.toInt64 * (10000000000000000 : Int64)) - t35)), none, none, none] rfl rfl (Or.inr True.intro) rfl (j_iload_n rfl rfl (g))))))))))))))) ?_
  refine J_ite (fun h40 => ?_) (fun h40 => ?_)
  · exact J_some (fun h => j_if_f rfl (cc_ne_f h40) (j_lload rfl rfl (j_goto rfl (j_lret rfl rfl h))))
  refine q_J.step (fun g => j_if_t rfl (cc_ne_t h40) (j_lload rfl rfl (j_lconst (0 : Int64) rfl kl_0 (j_lcmp rfl (g))))) ?_
  refine J_ite (fun h41 => ?_) (fun h41 => ?_)
  · exact J_some (fun h => j_if_t rfl (lc_gt_t h41) (j_lload rfl rfl (j_lload rfl rfl (j_ladd rfl (j_lconst (1 : Int64) rfl kl_1 (j_lsub rfl (j_lload rfl rfl (j_ldiv rfl (by decide) (j_lret rfl rfl h)))))))))
  exact J_some (fun h => j_if_f rfl (lc_gt_f h41) (j_lconst (0 : Int64) rfl kl_0 (j_goto rfl (j_lret rfl rfl h))))
theorem t_Mo_sisters {fo : Option Nat} {d : Nat} (hd : 7 ≤ d) {v0 : Nat} {v1 : Int32} {v2 : Int32} {v3 : Int32} {σ σ1 : q_H} {r : Int64} (h : f_Mo_sisters v0 v1 v2 v3 σ = some (r, σ1)) : q_Rel (q_rf fo) q_Ms d 245 [.ref v0, .int v1, .int v2, .int v3] σ (.inl (some (.long r))) σ1 := by
  obtain ⟨d, rfl⟩ : ∃ d1, d = d1 + 1 := ⟨d - 1, by omega⟩
  exact q_Rel.of rfl rfl (b_Mo_sisters hd _ _ _ _ σ _ _ h ⟨rfl, rfl⟩)

def f_Mo_born (v0 : Nat) (v1 : Int32) (v2 : Int32) (σ : q_H) : Option ((Int32) × q_H) := (q_sf σ 12 v0 0 (.int (0 : Int32))).bind fun σ1 => q_sq (if v1 = (0 : Int32) then (some ((1 : Int32), σ1)) else (some ((0 : Int32), σ1))) fun (t3 : Int32) σ4 => (q_ob σ4 12 v0).bind fun w5 => q_sq (f_Mo_countOf v0 (0 : Int32) (0 : Int32) (-1 : Int32) (31 : Int32) t3 σ4) fun x7 σ6 => q_sq (f_Mo_within v2 (0 : Int32) (1 : Int32) σ6) fun x9 σ8 => if x9 = (0 : Int32) then (some ((-1 : Int32), σ8)) else (if x7 = (0 : Int32) then (some ((-1 : Int32), σ8)) else (q_sq (if v1 = (0 : Int32) then (some ((1 : Int32), σ8)) else (some ((0 : Int32), σ8))) fun (t13 : Int32) σ14 => (q_ob σ14 12 v0).bind fun w15 => q_sq (f_Mo_countOf v0 (0 : Int32) (0 : Int32) (-1 : Int32) (1 : Int32) t13 σ14) fun x17 σ16 => q_sq (f_Mo_lowest x17.toInt64 x7.toInt64 v2 σ16) fun x19 σ18 => some (x19.toInt32, σ18)))
set_option maxRecDepth 100000 in
theorem b_Mo_born {fo : Option Nat} {d : Nat} (hd : 7 ≤ d + 1) {o : q_O} {σ' : q_H} (v0 : Nat) (v1 : Int32) (v2 : Int32) (σ : q_H) : q_J (fun (r : Int32) (σ1 : q_H) => o = .inl (some (.int r)) ∧ σ' = σ1) (f_Mo_born v0 v1 v2 σ) (q_G (q_rf fo) d m_Mo_born o σ' 0 [some (.ref v0), some (.int v1), some (.int v2), none] [] σ) := by
  unfold f_Mo_born
  refine J_bind fun σ1 hσ1 => ?_
  refine q_J.step (fun g => j_aload_n rfl rfl (j_iconst (0 : Int32) rfl k32_0 (j_putf rfl rfl rfl rfl hσ1 (j_aload_n rfl rfl (j_iconst (0 : Int32) rfl k32_0 (j_iconst (0 : Int32) rfl k32_0 (j_iconst (-1 : Int32) rfl k32_m1 (j_bipush (31 : Int32) rfl kb_31 (j_iload_n rfl rfl (g)))))))))) ?_
  refine J_sq (fun (t3 : Int32) (σ4 : q_H) => q_G (q_rf fo) d m_Mo_born o σ' 20 [some (.ref v0), some (.int v1), some (.int v2), none] [.int t3, .int (31 : Int32), .int (-1 : Int32), .int (0 : Int32), .int (0 : Int32), .ref v0] σ4) ?_ (fun t3 σ4 => ?_)
  · refine J_ite (fun h2 => ?_) (fun h2 => ?_)
    · exact J_some (fun h => j_if_t rfl (cc_eq_t h2) (j_iconst (1 : Int32) rfl k32_1 (h)))
    exact J_some (fun h => j_if_f rfl (cc_eq_f h2) (j_iconst (0 : Int32) rfl k32_0 (j_goto rfl (h))))
  refine J_bind fun w5 hw5 => ?_
  refine J_cl fun x7 σ6 hσ6 => ?_
  refine J_cl fun x9 σ8 hσ8 => ?_
  refine q_J.step (fun g => j_v1 [.ref v0, .int (0 : Int32), .int (0 : Int32), .int (-1 : Int32), .int (31 : Int32), .int t3] [] rfl rfl rfl rfl rfl rfl hw5 (Or.inl rfl) (t_Mo_countOf (by omega) hσ6) (j_istore_n [some (.ref v0), some (.int v1), some (.int v2), some (.int x7)] rfl rfl (Or.inr rfl) rfl (j_iload_n rfl rfl (j_iconst (0 : Int32) rfl k32_0 (j_iconst (1 : Int32) rfl k32_1 (j_s1 [.int v2, .int (0 : Int32), .int (1 : Int32)] [] rfl rfl rfl rfl rfl (t_Mo_within (by omega) hσ8) (g))))))) ?_
  refine J_ite (fun h10 => ?_) (fun h10 => ?_)
  · exact J_some (fun h => j_if_t rfl (cc_eq_t h10) (j_iconst (-1 : Int32) rfl k32_m1 (j_goto rfl (j_iret rfl rfl h))))
  refine q_J.step (fun g => j_if_f rfl (cc_eq_f h10) (j_iload_n rfl rfl (g))) ?_
  refine J_ite (fun h11 => ?_) (fun h11 => ?_)
  · exact J_some (fun h => j_if_f rfl (cc_ne_f h11) (j_iconst (-1 : Int32) rfl k32_m1 (j_goto rfl (j_iret rfl rfl h))))
  refine q_J.step (fun g => j_if_t rfl (cc_ne_t h11) (j_aload_n rfl rfl (j_iconst (0 : Int32) rfl k32_0 (j_iconst (0 : Int32) rfl k32_0 (j_iconst (-1 : Int32) rfl k32_m1 (j_iconst (1 : Int32) rfl k32_1 (j_iload_n rfl rfl (g)))))))) ?_
  refine J_sq (fun (t13 : Int32) (σ14 : q_H) => q_G (q_rf fo) d m_Mo_born o σ' 55 [none, none, some (.int v2), some (.int x7)] [.int t13, .int (1 : Int32), .int (-1 : Int32), .int (0 : Int32), .int (0 : Int32), .ref v0] σ14) ?_ (fun t13 σ14 => ?_)
  · refine J_ite (fun h12 => ?_) (fun h12 => ?_)
    · exact J_some (fun h => j_if_t rfl (cc_eq_t h12) (j_iconst (1 : Int32) rfl k32_1 (j_weak (l := [none, none, some (.int v2), some (.int x7)]) (And.intro (Or.inl rfl) (And.intro (Or.inl rfl) (And.intro (Or.inr rfl) (And.intro (Or.inr rfl) True.intro)))) (h))))
    exact J_some (fun h => j_if_f rfl (cc_eq_f h12) (j_iconst (0 : Int32) rfl k32_0 (j_goto rfl (j_weak (l := [none, none, some (.int v2), some (.int x7)]) (And.intro (Or.inl rfl) (And.intro (Or.inl rfl) (And.intro (Or.inr rfl) (And.intro (Or.inr rfl) True.intro)))) (h)))))
  refine J_bind fun w15 hw15 => ?_
  refine J_cl fun x17 σ16 hσ16 => ?_
  refine J_cl fun x19 σ18 hσ18 => ?_
  exact J_some (fun h => j_v1 [.ref v0, .int (0 : Int32), .int (0 : Int32), .int (-1 : Int32), .int (1 : Int32), .int t13] [] rfl rfl rfl rfl rfl rfl hw15 (Or.inl rfl) (t_Mo_countOf (by omega) hσ16) (j_i2l rfl (j_iload_n rfl rfl (j_i2l rfl (j_iload_n rfl rfl (j_s1 [.long x17.toInt64, .long x7.toInt64, .int v2] [] rfl rfl rfl rfl rfl (t_Mo_lowest (by omega) hσ18) (j_l2i rfl (j_iret rfl rfl h))))))))
theorem t_Mo_born {fo : Option Nat} {d : Nat} (hd : 7 ≤ d) {v0 : Nat} {v1 : Int32} {v2 : Int32} {σ σ1 : q_H} {r : Int32} (h : f_Mo_born v0 v1 v2 σ = some (r, σ1)) : q_Rel (q_rf fo) q_Ms d 247 [.ref v0, .int v1, .int v2] σ (.inl (some (.int r))) σ1 := by
  obtain ⟨d, rfl⟩ : ∃ d1, d = d1 + 1 := ⟨d - 1, by omega⟩
  exact q_Rel.of rfl rfl (b_Mo_born hd _ _ _ σ _ _ h ⟨rfl, rfl⟩)

def f_Mo_fails (v0 : Nat) (v1 : Int32) (σ : q_H) : Option ((Int32) × q_H) := (q_sf σ 12 v0 0 (.int (0 : Int32))).bind fun σ1 => q_sq (f_Mo_isTable v1 σ1) fun x3 σ2 => if x3 = (0 : Int32) then (some ((-1 : Int32), σ2)) else ((q_ob σ2 12 v0).bind fun w5 => q_sq (f_Mo_failsOf v0 v1 v1 σ2) fun x7 σ6 => some (x7, σ6))
set_option maxRecDepth 100000 in
theorem b_Mo_fails {fo : Option Nat} {d : Nat} (hd : 7 ≤ d + 1) {o : q_O} {σ' : q_H} (v0 : Nat) (v1 : Int32) (σ : q_H) : q_J (fun (r : Int32) (σ1 : q_H) => o = .inl (some (.int r)) ∧ σ' = σ1) (f_Mo_fails v0 v1 σ) (q_G (q_rf fo) d m_Mo_fails o σ' 0 [some (.ref v0), some (.int v1)] [] σ) := by
  unfold f_Mo_fails
  refine J_bind fun σ1 hσ1 => ?_
  refine J_cl fun x3 σ2 hσ2 => ?_
  refine q_J.step (fun g => j_aload_n rfl rfl (j_iconst (0 : Int32) rfl k32_0 (j_putf rfl rfl rfl rfl hσ1 (j_iload_n rfl rfl (j_s1 [.int v1] [] rfl rfl rfl rfl rfl (t_Mo_isTable (by omega) hσ2) (g)))))) ?_
  refine J_ite (fun h4 => ?_) (fun h4 => ?_)
  · exact J_some (fun h => j_if_t rfl (cc_eq_t h4) (j_iconst (-1 : Int32) rfl k32_m1 (j_iret rfl rfl h)))
  refine J_bind fun w5 hw5 => ?_
  refine J_cl fun x7 σ6 hσ6 => ?_
  exact J_some (fun h => j_if_f rfl (cc_eq_f h4) (j_aload_n rfl rfl (j_iload_n rfl rfl (j_iload_n rfl rfl (j_v1 [.ref v0, .int v1, .int v1] [] rfl rfl rfl rfl rfl rfl hw5 (Or.inl rfl) (t_Mo_failsOf (by omega) hσ6) (j_goto rfl (j_iret rfl rfl h)))))))
theorem t_Mo_fails {fo : Option Nat} {d : Nat} (hd : 7 ≤ d) {v0 : Nat} {v1 : Int32} {σ σ1 : q_H} {r : Int32} (h : f_Mo_fails v0 v1 σ = some (r, σ1)) : q_Rel (q_rf fo) q_Ms d 259 [.ref v0, .int v1] σ (.inl (some (.int r))) σ1 := by
  obtain ⟨d, rfl⟩ : ∃ d1, d = d1 + 1 := ⟨d - 1, by omega⟩
  exact q_Rel.of rfl rfl (b_Mo_fails hd _ _ σ _ _ h ⟨rfl, rfl⟩)

def f_Mo_fittest_L9 (v0 : Nat) : Nat → Int32 → Int32 → q_H → Option ((Int32) × q_H)
  | 0, _, _, _ => none
  | n + 1, v1, v2, σ => if v2 < (4 : Int32) then ((q_ob σ 12 v0).bind fun w3 => q_sq (f_Mo_failsOf v0 v2 v2 σ) fun x5 σ4 => (q_ob σ4 12 v0).bind fun w6 => q_sq (f_Mo_failsOf v0 v1 v1 σ4) fun x8 σ7 => if x5 < x8 then (f_Mo_fittest_L9 v0 n v2 (v2 + (1 : Int32)) σ7) else (f_Mo_fittest_L9 v0 n v1 (v2 + (1 : Int32)) σ7)) else (some (v1, σ))
set_option maxRecDepth 100000 in
theorem l_Mo_fittest_L9 {fo : Option Nat} {d : Nat} (hd : 7 ≤ d + 1) {o : q_O} {σ' : q_H} {E : (Int32) → q_H → Prop} (v0 : Nat) (hX : ∀ (t : Int32) σ1, E (t) σ1 → q_G (q_rf fo) d m_Mo_fittest o σ' 41 [none, some (.int t), none] [] σ1)  : ∀ (n : Nat) (v1 : Int32) (v2 : Int32) (σ : q_H), q_J E (f_Mo_fittest_L9 v0 n v1 v2 σ) (q_G (q_rf fo) d m_Mo_fittest o σ' 9 [some (.ref v0), some (.int v1), some (.int v2)] [] σ)
  | 0, v1, v2, σ => J_none
  | n + 1, v1, v2, σ => by
    unfold f_Mo_fittest_L9
    refine q_J.step (fun g => j_iload_n rfl rfl (j_iconst (4 : Int32) rfl k32_4 (g))) ?_
    refine J_ite (fun h2 => ?_) (fun h2 => ?_)
    · refine J_bind fun w3 hw3 => ?_
      refine J_cl fun x5 σ4 hσ4 => ?_
      refine J_bind fun w6 hw6 => ?_
      refine J_cl fun x8 σ7 hσ7 => ?_
      refine q_J.step (fun g => j_icmp_f rfl (cc_ge_f h2) (j_aload_n rfl rfl (j_iload_n rfl rfl (j_iload_n rfl rfl (j_v1 [.ref v0, .int v2, .int v2] [] rfl rfl rfl rfl rfl rfl hw3 (Or.inl rfl) (t_Mo_failsOf (by omega) hσ4) (j_aload_n rfl rfl (j_iload_n rfl rfl (j_iload_n rfl rfl (j_v1 [.ref v0, .int v1, .int v1] [.int x5] rfl rfl rfl rfl rfl rfl hw6 (Or.inl rfl) (t_Mo_failsOf (by omega) hσ7) (g)))))))))) ?_
      refine J_ite (fun h9 => ?_) (fun h9 => ?_)
      · exact q_J.step (fun g => j_icmp_f rfl (cc_ge_f h9) (j_iload_n rfl rfl (j_goto rfl (j_istore_n [some (.ref v0), some (.int v2), some (.int v2)] rfl rfl (Or.inr rfl) rfl (j_iinc [some (.ref v0), some (.int v2), some (.int (v2 + (1 : Int32)))] (v2 + (1 : Int32)) rfl rfl (by rw [k32_1]) (Or.inr rfl) rfl (j_goto rfl (g))))))) (l_Mo_fittest_L9 hd v0 hX n v2 (v2 + (1 : Int32)) σ7)
      exact q_J.step (fun g => j_icmp_t rfl (cc_ge_t h9) (j_iload_n rfl rfl (j_istore_n [some (.ref v0), some (.int v1), some (.int v2)] rfl rfl (Or.inr rfl) rfl (j_iinc [some (.ref v0), some (.int v1), some (.int (v2 + (1 : Int32)))] (v2 + (1 : Int32)) rfl rfl (by rw [k32_1]) (Or.inr rfl) rfl (j_goto rfl (g)))))) (l_Mo_fittest_L9 hd v0 hX n v1 (v2 + (1 : Int32)) σ7)
    exact J_some (fun h => j_icmp_t rfl (cc_ge_t h2) (j_weak (l := [none, some (.int v1), none]) (And.intro (Or.inl rfl) (And.intro (Or.inr rfl) (And.intro (Or.inl rfl) True.intro))) (hX _ _ h)))

def f_Mo_fittest (v0 : Nat) (σ : q_H) : Option ((Int32) × q_H) := (q_sf σ 12 v0 0 (.int (0 : Int32))).bind fun σ1 => q_sq (f_Mo_fittest_L9 v0 q_FU (0 : Int32) (1 : Int32) σ1) fun (t10 : Int32) σ11 => some (t10, σ11)
set_option maxRecDepth 100000 in
theorem b_Mo_fittest {fo : Option Nat} {d : Nat} (hd : 7 ≤ d + 1) {o : q_O} {σ' : q_H} (v0 : Nat) (σ : q_H) : q_J (fun (r : Int32) (σ1 : q_H) => o = .inl (some (.int r)) ∧ σ' = σ1) (f_Mo_fittest v0 σ) (q_G (q_rf fo) d m_Mo_fittest o σ' 0 [some (.ref v0), none, none] [] σ) := by
  unfold f_Mo_fittest
  refine J_bind fun σ1 hσ1 => ?_
  refine J_sq (fun (t10 : Int32) (σ11 : q_H) => q_G (q_rf fo) d m_Mo_fittest o σ' 41 [none, some (.int t10), none] [] σ11) (q_J.step (fun g => j_aload_n rfl rfl (j_iconst (0 : Int32) rfl k32_0 (j_putf rfl rfl rfl rfl hσ1 (j_iconst (0 : Int32) rfl k32_0 (j_istore_n [some (.ref v0), some (.int (0 : Int32)), none] rfl rfl (Or.inr rfl) rfl (j_iconst (1 : Int32) rfl k32_1 (j_istore_n [some (.ref v0), some (.int (0 : Int32)), some (.int (1 : Int32))] rfl rfl (Or.inr rfl) rfl (g)))))))) (l_Mo_fittest_L9 hd v0 (fun _ _ h => h) q_FU (0 : Int32) (1 : Int32) σ1)) (fun t10 σ11 => ?_)
  exact J_some (fun h => j_iload_n rfl rfl (j_iret rfl rfl h))
theorem t_Mo_fittest {fo : Option Nat} {d : Nat} (hd : 7 ≤ d) {v0 : Nat} {σ σ1 : q_H} {r : Int32} (h : f_Mo_fittest v0 σ = some (r, σ1)) : q_Rel (q_rf fo) q_Ms d 261 [.ref v0] σ (.inl (some (.int r))) σ1 := by
  obtain ⟨d, rfl⟩ : ∃ d1, d = d1 + 1 := ⟨d - 1, by omega⟩
  exact q_Rel.of rfl rfl (b_Mo_fittest hd _ σ _ _ h ⟨rfl, rfl⟩)

def f_Mo_apart (v0 : Nat) (v1 : Int32) (v2 : Int32) (σ : q_H) : Option ((Int32) × q_H) := (q_sf σ 12 v0 0 (.int (0 : Int32))).bind fun σ1 => q_sq (f_Mo_isTable v1 σ1) fun x3 σ2 => if x3 = (0 : Int32) then (some ((-1 : Int32), σ2)) else (q_sq (f_Mo_isTable v2 σ2) fun x6 σ5 => if x6 = (0 : Int32) then (some ((-1 : Int32), σ5)) else (if v1 = v2 then (some ((0 : Int32), σ5)) else ((q_ob σ5 12 v0).bind fun w9 => q_sq (f_Mo_failsOf v0 v2 v1 σ5) fun x11 σ10 => some (x11, σ10))))
set_option maxRecDepth 100000 in
theorem b_Mo_apart {fo : Option Nat} {d : Nat} (hd : 7 ≤ d + 1) {o : q_O} {σ' : q_H} (v0 : Nat) (v1 : Int32) (v2 : Int32) (σ : q_H) : q_J (fun (r : Int32) (σ1 : q_H) => o = .inl (some (.int r)) ∧ σ' = σ1) (f_Mo_apart v0 v1 v2 σ) (q_G (q_rf fo) d m_Mo_apart o σ' 0 [some (.ref v0), some (.int v1), some (.int v2)] [] σ) := by
  unfold f_Mo_apart
  refine J_bind fun σ1 hσ1 => ?_
  refine J_cl fun x3 σ2 hσ2 => ?_
  refine q_J.step (fun g => j_aload_n rfl rfl (j_iconst (0 : Int32) rfl k32_0 (j_putf rfl rfl rfl rfl hσ1 (j_iload_n rfl rfl (j_s1 [.int v1] [] rfl rfl rfl rfl rfl (t_Mo_isTable (by omega) hσ2) (g)))))) ?_
  refine J_ite (fun h4 => ?_) (fun h4 => ?_)
  · exact J_some (fun h => j_if_t rfl (cc_eq_t h4) (j_iconst (-1 : Int32) rfl k32_m1 (j_goto rfl (j_iret rfl rfl h))))
  refine J_cl fun x6 σ5 hσ5 => ?_
  refine q_J.step (fun g => j_if_f rfl (cc_eq_f h4) (j_iload_n rfl rfl (j_s1 [.int v2] [] rfl rfl rfl rfl rfl (t_Mo_isTable (by omega) hσ5) (g)))) ?_
  refine J_ite (fun h7 => ?_) (fun h7 => ?_)
  · exact J_some (fun h => j_if_f rfl (cc_ne_f h7) (j_iconst (-1 : Int32) rfl k32_m1 (j_goto rfl (j_iret rfl rfl h))))
  refine q_J.step (fun g => j_if_t rfl (cc_ne_t h7) (j_iload_n rfl rfl (j_iload_n rfl rfl (g)))) ?_
  refine J_ite (fun h8 => ?_) (fun h8 => ?_)
  · exact J_some (fun h => j_icmp_f rfl (cc_ne_f h8) (j_iconst (0 : Int32) rfl k32_0 (j_goto rfl (j_iret rfl rfl h))))
  refine J_bind fun w9 hw9 => ?_
  refine J_cl fun x11 σ10 hσ10 => ?_
  exact J_some (fun h => j_icmp_t rfl (cc_ne_t h8) (j_aload_n rfl rfl (j_iload_n rfl rfl (j_iload_n rfl rfl (j_v1 [.ref v0, .int v2, .int v1] [] rfl rfl rfl rfl rfl rfl hw9 (Or.inl rfl) (t_Mo_failsOf (by omega) hσ10) (j_iret rfl rfl h))))))
theorem t_Mo_apart {fo : Option Nat} {d : Nat} (hd : 7 ≤ d) {v0 : Nat} {v1 : Int32} {v2 : Int32} {σ σ1 : q_H} {r : Int32} (h : f_Mo_apart v0 v1 v2 σ = some (r, σ1)) : q_Rel (q_rf fo) q_Ms d 262 [.ref v0, .int v1, .int v2] σ (.inl (some (.int r))) σ1 := by
  obtain ⟨d, rfl⟩ : ∃ d1, d = d1 + 1 := ⟨d - 1, by omega⟩
  exact q_Rel.of rfl rfl (b_Mo_apart hd _ _ _ σ _ _ h ⟨rfl, rfl⟩)

def f_Mo_rates_L63 (v0 : Nat) (v1 : Int32) (v2 : Int32) (v3 : Int32) (v4 : Int32) (v5 : Int32) (v6 : Int32) (v7 : Int32) : Nat → Int32 → Int32 → q_H → Option ((Int32) × q_H)
  | 0, _, _, _ => none
  | n + 1, v8, v9, σ => if v9 < v1 then ((q_ob σ 12 v0).bind fun w16 => q_sq (f_Mo_runs v0 v9 v2 v3 v4 v5 σ) fun (_ : Unit) σ17 => (q_gi (q_gf σ17 12 v0 54)).bind fun x19 => (q_gi (q_gf σ17 12 v0 53)).bind fun x20 => if (x19 * v6) < (v7 * x20) then (f_Mo_rates_L63 v0 v1 v2 v3 v4 v5 v6 v7 n (v8 + (0 : Int32)) (v9 + (1 : Int32)) σ17) else (f_Mo_rates_L63 v0 v1 v2 v3 v4 v5 v6 v7 n (v8 + (1 : Int32)) (v9 + (1 : Int32)) σ17)) else (some (v8, σ))
set_option maxRecDepth 100000 in
theorem l_Mo_rates_L63 {fo : Option Nat} {d : Nat} (hd : 7 ≤ d + 1) {o : q_O} {σ' : q_H} {E : (Int32) → q_H → Prop} (v0 : Nat) (v1 : Int32) (v2 : Int32) (v3 : Int32) (v4 : Int32) (v5 : Int32) (v6 : Int32) (v7 : Int32) (hX : ∀ (t : Int32) σ1, E (t) σ1 → q_G (q_rf fo) d m_Mo_rates o σ' 114 [none, none, none, none, none, none, none, none, some (.int t), none] [] σ1)  : ∀ (n : Nat) (v8 : Int32) (v9 : Int32) (σ : q_H), q_J E (f_Mo_rates_L63 v0 v1 v2 v3 v4 v5 v6 v7 n v8 v9 σ) (q_G (q_rf fo) d m_Mo_rates o σ' 63 [some (.ref v0), some (.int v1), some (.int v2), some (.int v3), some (.int v4), some (.int v5), some (.int v6), some (.int v7), some (.int v8), some (.int v9)] [] σ)
  | 0, v8, v9, σ => J_none
  | n + 1, v8, v9, σ => by
    unfold f_Mo_rates_L63
    refine q_J.step (fun g => j_iload rfl rfl (j_iload_n rfl rfl (g))) ?_
    refine J_ite (fun h15 => ?_) (fun h15 => ?_)
    · refine J_bind fun w16 hw16 => ?_
      refine J_cl fun _ σ17 hσ17 => ?_
      refine J_bind fun x19 hx19 => ?_
      refine J_bind fun x20 hx20 => ?_
      refine q_J.step (fun g => j_icmp_f rfl (cc_ge_f h15) (j_aload_n rfl rfl (j_iload rfl rfl (j_iload_n rfl rfl (j_iload_n rfl rfl (j_iload rfl rfl (j_iload rfl rfl (j_v0 [.ref v0, .int v9, .int v2, .int v3, .int v4, .int v5] [] rfl rfl rfl rfl rfl rfl hw16 (Or.inl rfl) (t_Mo_runs (by omega) hσ17) (j_iload rfl rfl (j_aload_n rfl rfl (j_gfi rfl hx19 (j_iload rfl rfl (j_imul rfl (j_iload rfl rfl (g))))))))))))))) ?_
      refine q_J.step (fun g => j_aload_n rfl rfl (j_gfi rfl hx20 (j_imul rfl (g)))) ?_
      refine J_ite (fun h21 => ?_) (fun h21 => ?_)
      · exact q_J.step (fun g => j_icmp_t rfl (cc_lt_t h21) (j_iconst (0 : Int32) rfl k32_0 (j_iadd rfl (j_istore [some (.ref v0), some (.int v1), some (.int v2), some (.int v3), some (.int v4), some (.int v5), some (.int v6), some (.int v7), some (.int (v8 + (0 : Int32))), some (.int v9)] rfl rfl (Or.inr rfl) rfl (j_iinc [some (.ref v0), some (.int v1), some (.int v2), some (.int v3), some (.int v4), some (.int v5), some (.int v6), some (.int v7), some (.int (v8 + (0 : Int32))), some (.int (v9 + (1 : Int32)))] (v9 + (1 : Int32)) rfl rfl (by rw [k32_1]) (Or.inr rfl) rfl (j_goto rfl (g))))))) (l_Mo_rates_L63 hd v0 v1 v2 v3 v4 v5 v6 v7 hX n (v8 + (0 : Int32)) (v9 + (1 : Int32)) σ17)
      exact q_J.step (fun g => j_icmp_f rfl (cc_lt_f h21) (j_iconst (1 : Int32) rfl k32_1 (j_goto rfl (j_iadd rfl (j_istore [some (.ref v0), some (.int v1), some (.int v2), some (.int v3), some (.int v4), some (.int v5), some (.int v6), some (.int v7), some (.int (v8 + (1 : Int32))), some (.int v9)] rfl rfl (Or.inr rfl) rfl (j_iinc [some (.ref v0), some (.int v1), some (.int v2), some (.int v3), some (.int v4), some (.int v5), some (.int v6), some (.int v7), some (.int (v8 + (1 : Int32))), some (.int (v9 + (1 : Int32)))] (v9 + (1 : Int32)) rfl rfl (by rw [k32_1]) (Or.inr rfl) rfl (j_goto rfl (g)))))))) (l_Mo_rates_L63 hd v0 v1 v2 v3 v4 v5 v6 v7 hX n (v8 + (1 : Int32)) (v9 + (1 : Int32)) σ17)
    exact J_some (fun h => j_icmp_t rfl (cc_ge_t h15) (j_weak (l := [none, none, none, none, none, none, none, none, some (.int v8), none]) (And.intro (Or.inl rfl) (And.intro (Or.inl rfl) (And.intro (Or.inl rfl) (And.intro (Or.inl rfl) (And.intro (Or.inl rfl) (And.intro (Or.inl rfl) (And.intro (Or.inl rfl) (And.intro (Or.inl rfl) (And.intro (Or.inr rfl) (And.intro (Or.inl rfl) True.intro)))))))))) (hX _ _ h)))

def f_Mo_rates (v0 : Nat) (v1 : Int32) (v2 : Int32) (v3 : Int32) (v4 : Int32) (v5 : Int32) (σ : q_H) : Option ((Int32) × q_H) := (q_sf σ 12 v0 0 (.int (0 : Int32))).bind fun σ1 => (q_ob σ1 12 v0).bind fun w2 => q_sq (f_Mo_countOf v0 (0 : Int32) (0 : Int32) (-1 : Int32) (31 : Int32) (2 : Int32) σ1) fun x4 σ3 => q_sq (f_Mo_within v1 (1 : Int32) (20 : Int32) σ3) fun x6 σ5 => if x6 = (0 : Int32) then (some ((-1 : Int32), σ5)) else (q_sq (f_Mo_isWorld v2 v3 v4 v5 σ5) fun x9 σ8 => if x9 = (0 : Int32) then (some ((-1 : Int32), σ8)) else (if x4 = (0 : Int32) then (some ((-1 : Int32), σ8)) else ((q_ob σ8 12 v0).bind fun w12 => q_sq (f_Mo_countOf v0 (0 : Int32) (0 : Int32) (-1 : Int32) (1 : Int32) (2 : Int32) σ8) fun x14 σ13 => q_sq (f_Mo_rates_L63 v0 v1 v2 v3 v4 v5 x4 x14 q_FU (0 : Int32) (0 : Int32) σ13) fun (t22 : Int32) σ23 => some (t22, σ23))))
set_option maxRecDepth 100000 in
theorem b_Mo_rates {fo : Option Nat} {d : Nat} (hd : 7 ≤ d + 1) {o : q_O} {σ' : q_H} (v0 : Nat) (v1 : Int32) (v2 : Int32) (v3 : Int32) (v4 : Int32) (v5 : Int32) (σ : q_H) : q_J (fun (r : Int32) (σ1 : q_H) => o = .inl (some (.int r)) ∧ σ' = σ1) (f_Mo_rates v0 v1 v2 v3 v4 v5 σ) (q_G (q_rf fo) d m_Mo_rates o σ' 0 [some (.ref v0), some (.int v1), some (.int v2), some (.int v3), some (.int v4), some (.int v5), none, none, none, none] [] σ) := by
  unfold f_Mo_rates
  refine J_bind fun σ1 hσ1 => ?_
  refine J_bind fun w2 hw2 => ?_
  refine J_cl fun x4 σ3 hσ3 => ?_
  refine J_cl fun x6 σ5 hσ5 => ?_
  refine q_J.step (fun g => j_aload_n rfl rfl (j_iconst (0 : Int32) rfl k32_0 (j_putf rfl rfl rfl rfl hσ1 (j_aload_n rfl rfl (j_iconst (0 : Int32) rfl k32_0 (j_iconst (0 : Int32) rfl k32_0 (j_iconst (-1 : Int32) rfl k32_m1 (j_bipush (31 : Int32) rfl kb_31 (j_iconst (2 : Int32) rfl k32_2 (j_v1 [.ref v0, .int (0 : Int32), .int (0 : Int32), .int (-1 : Int32), .int (31 : Int32), .int (2 : Int32)] [] rfl rfl rfl rfl rfl rfl hw2 (Or.inl rfl) (t_Mo_countOf (by omega) hσ3) (j_istore [some (.ref v0), some (.int v1), some (.int v2), some (.int v3), some (.int v4), some (.int v5), some (.int x4), none, none, none] rfl rfl (Or.inr rfl) rfl (j_iload_n rfl rfl (j_iconst (1 : Int32) rfl k32_1 (j_bipush (20 : Int32) rfl kb_20 (g))))))))))))))) ?_
  refine q_J.step (fun g => j_s1 [.int v1, .int (1 : Int32), .int (20 : Int32)] [] rfl rfl rfl rfl rfl (t_Mo_within (by omega) hσ5) (g)) ?_
  refine J_ite (fun h7 => ?_) (fun h7 => ?_)
  · exact J_some (fun h => j_if_t rfl (cc_eq_t h7) (j_iconst (-1 : Int32) rfl k32_m1 (j_iret rfl rfl h)))
  refine J_cl fun x9 σ8 hσ8 => ?_
  refine q_J.step (fun g => j_if_f rfl (cc_eq_f h7) (j_iload_n rfl rfl (j_iload_n rfl rfl (j_iload rfl rfl (j_iload rfl rfl (j_s1 [.int v2, .int v3, .int v4, .int v5] [] rfl rfl rfl rfl rfl (t_Mo_isWorld (by omega) hσ8) (g))))))) ?_
  refine J_ite (fun h10 => ?_) (fun h10 => ?_)
  · exact J_some (fun h => j_if_t rfl (cc_eq_t h10) (j_iconst (-1 : Int32) rfl k32_m1 (j_iret rfl rfl h)))
  refine q_J.step (fun g => j_if_f rfl (cc_eq_f h10) (j_iload rfl rfl (g))) ?_
  refine J_ite (fun h11 => ?_) (fun h11 => ?_)
  · exact J_some (fun h => j_if_f rfl (cc_ne_f h11) (j_iconst (-1 : Int32) rfl k32_m1 (j_iret rfl rfl h)))
  refine J_bind fun w12 hw12 => ?_
  refine J_cl fun x14 σ13 hσ13 => ?_
  refine J_sq (fun (t22 : Int32) (σ23 : q_H) => q_G (q_rf fo) d m_Mo_rates o σ' 114 [none, none, none, none, none, none, none, none, some (.int t22), none] [] σ23) (q_J.step (fun g => j_if_t rfl (cc_ne_t h11) (j_aload_n rfl rfl (j_iconst (0 : Int32) rfl k32_0 (j_iconst (0 : Int32) rfl k32_0 (j_iconst (-1 : Int32) rfl k32_m1 (j_iconst (1 : Int32) rfl k32_1 (j_iconst (2 : Int32) rfl k32_2 (j_v1 [.ref v0, .int (0 : Int32), .int (0 : Int32), .int (-1 : Int32), .int (1 : Int32), .int (2 : Int32)] [] rfl rfl rfl rfl rfl rfl hw12 (Or.inl rfl) (t_Mo_countOf (by omega) hσ13) (j_istore [some (.ref v0), some (.int v1), some (.int v2), some (.int v3), some (.int v4), some (.int v5), some (.int x4), some (.int x14), none, none] rfl rfl (Or.inr rfl) rfl (j_iconst (0 : Int32) rfl k32_0 (j_istore [some (.ref v0), some (.int v1), some (.int v2), some (.int v3), some (.int v4), some (.int v5), some (.int x4), some (.int x14), some (.int (0 : Int32)), none] rfl rfl (Or.inr rfl) rfl (j_iconst (0 : Int32) rfl k32_0 (j_istore [some (.ref v0), some (.int v1), some (.int v2), some (.int v3), some (.int v4), some (.int v5), some (.int x4), some (.int x14), some (.int (0 : Int32)), some (.int (0 : Int32))] rfl rfl (Or.inr rfl) rfl (g)))))))))))))) (l_Mo_rates_L63 hd v0 v1 v2 v3 v4 v5 x4 x14 (fun _ _ h => h) q_FU (0 : Int32) (0 : Int32) σ13)) (fun t22 σ23 => ?_)
  exact J_some (fun h => j_iload rfl rfl (j_iret rfl rfl h))
theorem t_Mo_rates {fo : Option Nat} {d : Nat} (hd : 7 ≤ d) {v0 : Nat} {v1 : Int32} {v2 : Int32} {v3 : Int32} {v4 : Int32} {v5 : Int32} {σ σ1 : q_H} {r : Int32} (h : f_Mo_rates v0 v1 v2 v3 v4 v5 σ = some (r, σ1)) : q_Rel (q_rf fo) q_Ms d 268 [.ref v0, .int v1, .int v2, .int v3, .int v4, .int v5] σ (.inl (some (.int r))) σ1 := by
  obtain ⟨d, rfl⟩ : ∃ d1, d = d1 + 1 := ⟨d - 1, by omega⟩
  exact q_Rel.of rfl rfl (b_Mo_rates hd _ _ _ _ _ _ σ _ _ h ⟨rfl, rfl⟩)

def f_Mo_lays_L7 (v0 : Nat) : Nat → Int32 → q_H → Option ((Unit) × q_H)
  | 0, _, _ => none
  | n + 1, v1, σ => if v1 < (225 : Int32) then (if ((v1 - v1 / (25 : Int32) * (25 : Int32)) - (1 : Int32)) < (0 : Int32) then ((q_ob σ 12 v0).bind fun w4 => q_sq (f_Mo_countOf v0 (0 : Int32) (0 : Int32) ((v1 - v1 / (25 : Int32) * (25 : Int32)) - (1 : Int32)) (31 : Int32) ((2 : Int32) - ((v1 / (25 : Int32)) - (v1 / (25 : Int32)) / (3 : Int32) * (3 : Int32))) σ) fun x6 σ5 => if x6 = (0 : Int32) then (f_Mo_lays_L7 v0 n (v1 + (1 : Int32)) σ5) else ((q_gr (q_gf σ5 12 v0 59)).bind fun x8 => (q_gi (q_gf σ5 12 v0 58)).bind fun x9 => q_sq (f_Mo_sorts (v1 / (75 : Int32)) σ5) fun x11 σ10 => (q_ob σ10 12 v0).bind fun w12 => q_sq (f_Mo_countOf v0 (0 : Int32) (0 : Int32) ((v1 - v1 / (25 : Int32) * (25 : Int32)) - (1 : Int32)) x11 ((2 : Int32) - ((v1 / (25 : Int32)) - (v1 / (25 : Int32)) / (3 : Int32) * (3 : Int32))) σ10) fun x14 σ13 => (q_sa σ13 20 x8 x9 (.int x14)).bind fun σ15 => (q_gr (q_gf σ15 12 v0 60)).bind fun x16 => (q_gi (q_gf σ15 12 v0 58)).bind fun x17 => (q_sa σ15 20 x16 x17 (.int x6)).bind fun σ18 => (q_gi (q_gf σ18 12 v0 58)).bind fun x19 => (q_sf σ18 12 v0 58 (.int (x19 + (1 : Int32)))).bind fun σ20 => f_Mo_lays_L7 v0 n (v1 + (1 : Int32)) σ20)) else ((q_ob σ 12 v0).bind fun w21 => q_sq (f_Mo_isThere v0 ((v1 - v1 / (25 : Int32) * (25 : Int32)) - (1 : Int32)) σ) fun x23 σ22 => if x23 = (0 : Int32) then (f_Mo_lays_L7 v0 n (v1 + (1 : Int32)) σ22) else ((q_ob σ22 12 v0).bind fun w25 => q_sq (f_Mo_countOf v0 (0 : Int32) (0 : Int32) ((v1 - v1 / (25 : Int32) * (25 : Int32)) - (1 : Int32)) (31 : Int32) ((2 : Int32) - ((v1 / (25 : Int32)) - (v1 / (25 : Int32)) / (3 : Int32) * (3 : Int32))) σ22) fun x27 σ26 => if x27 = (0 : Int32) then (f_Mo_lays_L7 v0 n (v1 + (1 : Int32)) σ26) else ((q_gr (q_gf σ26 12 v0 59)).bind fun x29 => (q_gi (q_gf σ26 12 v0 58)).bind fun x30 => q_sq (f_Mo_sorts (v1 / (75 : Int32)) σ26) fun x32 σ31 => (q_ob σ31 12 v0).bind fun w33 => q_sq (f_Mo_countOf v0 (0 : Int32) (0 : Int32) ((v1 - v1 / (25 : Int32) * (25 : Int32)) - (1 : Int32)) x32 ((2 : Int32) - ((v1 / (25 : Int32)) - (v1 / (25 : Int32)) / (3 : Int32) * (3 : Int32))) σ31) fun x35 σ34 => (q_sa σ34 20 x29 x30 (.int x35)).bind fun σ36 => (q_gr (q_gf σ36 12 v0 60)).bind fun x37 => (q_gi (q_gf σ36 12 v0 58)).bind fun x38 => (q_sa σ36 20 x37 x38 (.int x27)).bind fun σ39 => (q_gi (q_gf σ39 12 v0 58)).bind fun x40 => (q_sf σ39 12 v0 58 (.int (x40 + (1 : Int32)))).bind fun σ41 => f_Mo_lays_L7 v0 n (v1 + (1 : Int32)) σ41)))) else (some ((), σ))
set_option maxRecDepth 100000 in
theorem l_Mo_lays_L7 {fo : Option Nat} {d : Nat} (hd : 7 ≤ d + 1) {o : q_O} {σ' : q_H} {E : (Unit) → q_H → Prop} (v0 : Nat) (hX : ∀ (t : Unit) σ1, E (t) σ1 → q_G (q_rf fo) d m_Mo_lays o σ' 118 [none, none, none, none] [] σ1)  : ∀ (n : Nat) (v1 : Int32) (σ : q_H), q_J E (f_Mo_lays_L7 v0 n v1 σ) (q_G (q_rf fo) d m_Mo_lays o σ' 7 [some (.ref v0), some (.int v1), none, none] [] σ)
  | 0, v1, σ => J_none
  | n + 1, v1, σ => by
    unfold f_Mo_lays_L7
    refine q_J.step (fun g => j_iload_n rfl rfl (j_sipush (225 : Int32) rfl ks_225 (g))) ?_
    refine J_ite (fun h2 => ?_) (fun h2 => ?_)
    · refine q_J.step (fun g => j_icmp_f rfl (cc_ge_f h2) (j_iload_n rfl rfl (j_bipush (25 : Int32) rfl kb_25 (j_irem rfl (by decide) (j_iconst (1 : Int32) rfl k32_1 (j_isub rfl (j_istore_n [some (.ref v0), some (.int v1), some (.int ((v1 - v1 / (25 : Int32) * (25 : Int32)) - (1 : Int32))), none] rfl rfl (Or.inr rfl) rfl (j_iload_n rfl rfl (g))))))))) ?_
      refine J_ite (fun h3 => ?_) (fun h3 => ?_)
      · refine J_bind fun w4 hw4 => ?_
        refine J_cl fun x6 σ5 hσ5 => ?_
        refine q_J.step (fun g => j_if_t rfl (cc_lt_t h3) (j_aload_n rfl rfl (j_iconst (0 : Int32) rfl k32_0 (j_iconst (0 : Int32) rfl k32_0 (j_iload_n rfl rfl (j_bipush (31 : Int32) rfl kb_31 (j_iconst (2 : Int32) rfl k32_2 (j_iload_n rfl rfl (j_bipush (25 : Int32) rfl kb_25 (j_idiv rfl (by decide) (j_iconst (3 : Int32) rfl k32_3 (j_irem rfl (by decide) (j_isub rfl (j_v1 [.ref v0, .int (0 : Int32), .int (0 : Int32), .int ((v1 - v1 / (25 : Int32) * (25 : Int32)) - (1 : Int32)), .int (31 : Int32), .int ((2 : Int32) - ((v1 / (25 : Int32)) - (v1 / (25 : Int32)) / (3 : Int32) * (3 : Int32)))] [] rfl rfl rfl rfl rfl rfl hw4 (Or.inl rfl) (t_Mo_countOf (by omega) hσ5) (g))))))))))))))) ?_
        refine q_J.step (fun g => j_istore_n [some (.ref v0), some (.int v1), some (.int ((v1 - v1 / (25 : Int32) * (25 : Int32)) - (1 : Int32))), some (.int x6)] rfl rfl (Or.inr rfl) rfl (j_iload_n rfl rfl (g))) ?_
        refine J_ite (fun h7 => ?_) (fun h7 => ?_)
        · exact q_J.step (fun g => j_if_f rfl (cc_ne_f h7) (j_goto rfl (j_iinc [some (.ref v0), some (.int (v1 + (1 : Int32))), some (.int ((v1 - v1 / (25 : Int32) * (25 : Int32)) - (1 : Int32))), some (.int x6)] (v1 + (1 : Int32)) rfl rfl (by rw [k32_1]) (Or.inr rfl) rfl (j_goto rfl (j_weak (l := [some (.ref v0), some (.int (v1 + (1 : Int32))), none, none]) (And.intro (Or.inr rfl) (And.intro (Or.inr rfl) (And.intro (Or.inl rfl) (And.intro (Or.inl rfl) True.intro)))) (g)))))) (l_Mo_lays_L7 hd v0 hX n (v1 + (1 : Int32)) σ5)
        refine J_bind fun x8 hx8 => ?_
        refine J_bind fun x9 hx9 => ?_
        refine J_cl fun x11 σ10 hσ10 => ?_
        refine J_bind fun w12 hw12 => ?_
        refine J_cl fun x14 σ13 hσ13 => ?_
        refine J_bind fun σ15 hσ15 => ?_
        refine J_bind fun x16 hx16 => ?_
        refine J_bind fun x17 hx17 => ?_
        refine J_bind fun σ18 hσ18 => ?_
        refine J_bind fun x19 hx19 => ?_
        refine J_bind fun σ20 hσ20 => ?_
        exact q_J.step (fun g => j_if_t rfl (cc_ne_t h7) (j_aload_n rfl rfl (j_gfr rfl hx8 (j_aload_n rfl rfl (j_gfi rfl hx9 (j_aload_n rfl rfl (j_iconst (0 : Int32) rfl k32_0 (j_iconst (0 : Int32) rfl k32_0 (j_iload_n rfl rfl (j_iload_n rfl rfl (j_bipush (75 : Int32) rfl kb_75 (j_idiv rfl (by decide) (j_s1 [.int (v1 / (75 : Int32))] [.int ((v1 - v1 / (25 : Int32) * (25 : Int32)) - (1 : Int32)), .int (0 : Int32), .int (0 : Int32), .ref v0, .int x9, .ref x8] rfl rfl rfl rfl rfl (t_Mo_sorts (by omega) hσ10) (j_iconst (2 : Int32) rfl k32_2 (j_iload_n rfl rfl (j_bipush (25 : Int32) rfl kb_25 (j_idiv rfl (by decide) (j_iconst (3 : Int32) rfl k32_3 (j_irem rfl (by decide) (j_isub rfl (j_v1 [.ref v0, .int (0 : Int32), .int (0 : Int32), .int ((v1 - v1 / (25 : Int32) * (25 : Int32)) - (1 : Int32)), .int x11, .int ((2 : Int32) - ((v1 / (25 : Int32)) - (v1 / (25 : Int32)) / (3 : Int32) * (3 : Int32)))] [.int x9, .ref x8] rfl rfl rfl rfl rfl rfl hw12 (Or.inl rfl) (t_Mo_countOf (by omega) hσ13) (j_ias rfl hσ15 (j_aload_n rfl rfl (j_gfr rfl hx16 (j_aload_n rfl rfl (j_gfi rfl hx17 (j_iload_n rfl rfl (j_ias rfl hσ18 (j_aload_n rfl rfl (j_dup rfl rfl (j_gfi rfl hx19 (j_iconst (1 : Int32) rfl k32_1 (j_iadd rfl (j_putf rfl rfl rfl rfl hσ20 (j_iinc [some (.ref v0), some (.int (v1 + (1 : Int32))), some (.int ((v1 - v1 / (25 : Int32) * (25 : Int32)) - (1 : Int32))), some (.int x6)] (v1 + (1 : Int32)) rfl rfl (by rw [k32_1]) (Or.inr rfl) rfl (j_goto rfl (j_weak (l := [some (.ref v0), some (.int (v1 + (1 : Int32))), none, none]) (And.intro (Or.inr rfl) (And.intro (Or.inr rfl) (And.intro (Or.inl rfl) (And.intro (Or.inl rfl) True.intro)))) (g)))))))))))))))))))))))))))))))))))))) (l_Mo_lays_L7 hd v0 hX n (v1 + (1 : Int32)) σ20)
      refine J_bind fun w21 hw21 => ?_
      refine J_cl fun x23 σ22 hσ22 => ?_
      refine q_J.step (fun g => j_if_f rfl (cc_lt_f h3) (j_aload_n rfl rfl (j_iload_n rfl rfl (j_v1 [.ref v0, .int ((v1 - v1 / (25 : Int32) * (25 : Int32)) - (1 : Int32))] [] rfl rfl rfl rfl rfl rfl hw21 (Or.inl rfl) (t_Mo_isThere (by omega) hσ22) (g))))) ?_
      refine J_ite (fun h24 => ?_) (fun h24 => ?_)
      · exact q_J.step (fun g => j_if_f rfl (cc_ne_f h24) (j_goto rfl (j_iinc [some (.ref v0), some (.int (v1 + (1 : Int32))), some (.int ((v1 - v1 / (25 : Int32) * (25 : Int32)) - (1 : Int32))), none] (v1 + (1 : Int32)) rfl rfl (by rw [k32_1]) (Or.inr rfl) rfl (j_goto rfl (j_weak (l := [some (.ref v0), some (.int (v1 + (1 : Int32))), none, none]) (And.intro (Or.inr rfl) (And.intro (Or.inr rfl) (And.intro (Or.inl rfl) (And.intro (Or.inr rfl) True.intro)))) (g)))))) (l_Mo_lays_L7 hd v0 hX n (v1 + (1 : Int32)) σ22)
      refine J_bind fun w25 hw25 => ?_
      refine J_cl fun x27 σ26 hσ26 => ?_
      refine q_J.step (fun g => j_if_t rfl (cc_ne_t h24) (j_aload_n rfl rfl (j_iconst (0 : Int32) rfl k32_0 (j_iconst (0 : Int32) rfl k32_0 (j_iload_n rfl rfl (j_bipush (31 : Int32) rfl kb_31 (j_iconst (2 : Int32) rfl k32_2 (j_iload_n rfl rfl (j_bipush (25 : Int32) rfl kb_25 (j_idiv rfl (by decide) (j_iconst (3 : Int32) rfl k32_3 (j_irem rfl (by decide) (j_isub rfl (j_v1 [.ref v0, .int (0 : Int32), .int (0 : Int32), .int ((v1 - v1 / (25 : Int32) * (25 : Int32)) - (1 : Int32)), .int (31 : Int32), .int ((2 : Int32) - ((v1 / (25 : Int32)) - (v1 / (25 : Int32)) / (3 : Int32) * (3 : Int32)))] [] rfl rfl rfl rfl rfl rfl hw25 (Or.inl rfl) (t_Mo_countOf (by omega) hσ26) (g))))))))))))))) ?_
      refine q_J.step (fun g => j_istore_n [some (.ref v0), some (.int v1), some (.int ((v1 - v1 / (25 : Int32) * (25 : Int32)) - (1 : Int32))), some (.int x27)] rfl rfl (Or.inr rfl) rfl (j_iload_n rfl rfl (g))) ?_
      refine J_ite (fun h28 => ?_) (fun h28 => ?_)
      · exact q_J.step (fun g => j_if_f rfl (cc_ne_f h28) (j_goto rfl (j_iinc [some (.ref v0), some (.int (v1 + (1 : Int32))), some (.int ((v1 - v1 / (25 : Int32) * (25 : Int32)) - (1 : Int32))), some (.int x27)] (v1 + (1 : Int32)) rfl rfl (by rw [k32_1]) (Or.inr rfl) rfl (j_goto rfl (j_weak (l := [some (.ref v0), some (.int (v1 + (1 : Int32))), none, none]) (And.intro (Or.inr rfl) (And.intro (Or.inr rfl) (And.intro (Or.inl rfl) (And.intro (Or.inl rfl) True.intro)))) (g)))))) (l_Mo_lays_L7 hd v0 hX n (v1 + (1 : Int32)) σ26)
      refine J_bind fun x29 hx29 => ?_
      refine J_bind fun x30 hx30 => ?_
      refine J_cl fun x32 σ31 hσ31 => ?_
      refine J_bind fun w33 hw33 => ?_
      refine J_cl fun x35 σ34 hσ34 => ?_
      refine J_bind fun σ36 hσ36 => ?_
      refine J_bind fun x37 hx37 => ?_
      refine J_bind fun x38 hx38 => ?_
      refine J_bind fun σ39 hσ39 => ?_
      refine J_bind fun x40 hx40 => ?_
      refine J_bind fun σ41 hσ41 => ?_
      exact q_J.step (fun g => j_if_t rfl (cc_ne_t h28) (j_aload_n rfl rfl (j_gfr rfl hx29 (j_aload_n rfl rfl (j_gfi rfl hx30 (j_aload_n rfl rfl (j_iconst (0 : Int32) rfl k32_0 (j_iconst (0 : Int32) rfl k32_0 (j_iload_n rfl rfl (j_iload_n rfl rfl (j_bipush (75 : Int32) rfl kb_75 (j_idiv rfl (by decide) (j_s1 [.int (v1 / (75 : Int32))] [.int ((v1 - v1 / (25 : Int32) * (25 : Int32)) - (1 : Int32)), .int (0 : Int32), .int (0 : Int32), .ref v0, .int x30, .ref x29] rfl rfl rfl rfl rfl (t_Mo_sorts (by omega) hσ31) (j_iconst (2 : Int32) rfl k32_2 (j_iload_n rfl rfl (j_bipush (25 : Int32) rfl kb_25 (j_idiv rfl (by decide) (j_iconst (3 : Int32) rfl k32_3 (j_irem rfl (by decide) (j_isub rfl (j_v1 [.ref v0, .int (0 : Int32), .int (0 : Int32), .int ((v1 - v1 / (25 : Int32) * (25 : Int32)) - (1 : Int32)), .int x32, .int ((2 : Int32) - ((v1 / (25 : Int32)) - (v1 / (25 : Int32)) / (3 : Int32) * (3 : Int32)))] [.int x30, .ref x29] rfl rfl rfl rfl rfl rfl hw33 (Or.inl rfl) (t_Mo_countOf (by omega) hσ34) (j_ias rfl hσ36 (j_aload_n rfl rfl (j_gfr rfl hx37 (j_aload_n rfl rfl (j_gfi rfl hx38 (j_iload_n rfl rfl (j_ias rfl hσ39 (j_aload_n rfl rfl (j_dup rfl rfl (j_gfi rfl hx40 (j_iconst (1 : Int32) rfl k32_1 (j_iadd rfl (j_putf rfl rfl rfl rfl hσ41 (j_iinc [some (.ref v0), some (.int (v1 + (1 : Int32))), some (.int ((v1 - v1 / (25 : Int32) * (25 : Int32)) - (1 : Int32))), some (.int x27)] (v1 + (1 : Int32)) rfl rfl (by rw [k32_1]) (Or.inr rfl) rfl (j_goto rfl (j_weak (l := [some (.ref v0), some (.int (v1 + (1 : Int32))), none, none]) (And.intro (Or.inr rfl) (And.intro (Or.inr rfl) (And.intro (Or.inl rfl) (And.intro (Or.inl rfl) True.intro)))) (g)))))))))))))))))))))))))))))))))))))) (l_Mo_lays_L7 hd v0 hX n (v1 + (1 : Int32)) σ41)
    exact J_some (fun h => j_icmp_t rfl (cc_ge_t h2) (j_weak (l := [none, none, none, none]) (And.intro (Or.inl rfl) (And.intro (Or.inl rfl) (And.intro (Or.inr rfl) (And.intro (Or.inr rfl) True.intro)))) (hX _ _ h)))

def f_Mo_lays (v0 : Nat) (σ : q_H) : Option ((Unit) × q_H) := (q_sf σ 12 v0 58 (.int (0 : Int32))).bind fun σ1 => q_sq (f_Mo_lays_L7 v0 q_FU (0 : Int32) σ1) fun (t42 : Unit) σ43 => some ((), σ43)
set_option maxRecDepth 100000 in
theorem b_Mo_lays {fo : Option Nat} {d : Nat} (hd : 7 ≤ d + 1) {o : q_O} {σ' : q_H} (v0 : Nat) (σ : q_H) : q_J (fun (r : Unit) (σ1 : q_H) => o = .inl none ∧ σ' = σ1) (f_Mo_lays v0 σ) (q_G (q_rf fo) d m_Mo_lays o σ' 0 [some (.ref v0), none, none, none] [] σ) := by
  unfold f_Mo_lays
  refine J_bind fun σ1 hσ1 => ?_
  refine J_sq (fun (t42 : Unit) (σ43 : q_H) => q_G (q_rf fo) d m_Mo_lays o σ' 118 [none, none, none, none] [] σ43) (q_J.step (fun g => j_aload_n rfl rfl (j_iconst (0 : Int32) rfl k32_0 (j_putf rfl rfl rfl rfl hσ1 (j_iconst (0 : Int32) rfl k32_0 (j_istore_n [some (.ref v0), some (.int (0 : Int32)), none, none] rfl rfl (Or.inr rfl) rfl (g)))))) (l_Mo_lays_L7 hd v0 (fun _ _ h => h) q_FU (0 : Int32) σ1)) (fun t42 σ43 => ?_)
  exact J_some (fun h => j_vret rfl rfl h)
theorem t_Mo_lays {fo : Option Nat} {d : Nat} (hd : 7 ≤ d) {v0 : Nat} {σ σ1 : q_H} {r : Unit} (h : f_Mo_lays v0 σ = some (r, σ1)) : q_Rel (q_rf fo) q_Ms d 270 [.ref v0] σ (.inl none) σ1 := by
  obtain ⟨d, rfl⟩ : ∃ d1, d = d1 + 1 := ⟨d - 1, by omega⟩
  exact q_Rel.of rfl rfl (b_Mo_lays hd _ σ _ _ h ⟨rfl, rfl⟩)

