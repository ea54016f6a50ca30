/-! LAW: the class's reader: walks: by program. -/
def q_HP (fo : Option Nat) (P : q_PF) (m : Nat) : Prop := ∀ (d : Nat) (v0 : Nat) (v1 : Int32) (σ : q_H) (r : Int32) (σ1 : q_H), m ≤ d → P v0 v1 σ = some (r, σ1) → q_Rel (q_rf fo) q_Ms d 57 [.ref v0, .int v1] σ (.inl (some (.int r))) σ1
set_option maxRecDepth 100000 in
theorem l_Lr_parseProduct_L8 {fo : Option Nat} {P : q_PF} {m : Nat} (hm : 12 ≤ m) (HP : q_HP fo P m) {d : Nat} (hd : m + 1 ≤ d + 1) {o : q_O} {σ' : q_H} {E : (Int32) → q_H → Prop} (v0 : Nat) (v1 : Int32) (hX : ∀ (t : Int32) σ1, E (t) σ1 → q_G (q_rf fo) d m_Lr_parseProduct o σ' 57 [none, none, some (.int t), none] [] σ1)  : ∀ (n : Nat) (v2 : Int32) (v3 : Int32) (σ : q_H), q_J E (f_Lr_parseProduct_L8 P v0 v1 n v2 v3 σ) (q_G (q_rf fo) d m_Lr_parseProduct o σ' 8 [some (.ref v0), some (.int v1), some (.int v2), some (.int v3)] [] σ)
  | 0, v2, v3, σ => J_none
  | n + 1, v2, v3, σ => by
    unfold f_Lr_parseProduct_L8
    refine q_J.step (fun g => j_iload_n rfl rfl (g)) ?_
    refine J_ite (fun h1 => ?_) (fun h1 => ?_)
    · refine q_J.step (fun g => j_if_f rfl (cc_ne_f h1) (j_iload_n rfl rfl (j_sipush (1000 : Int32) rfl ks_1000 (g)))) ?_
      refine J_ite (fun h2 => ?_) (fun h2 => ?_)
      · refine J_bind fun x3 hx3 => ?_
        refine J_bind fun w4 hw4 => ?_
        refine J_cl fun x6 σ5 hσ5 => ?_
        refine q_J.step (fun g => j_icmp_f rfl (cc_ge_f h2) (j_aload_n rfl rfl (j_gfr rfl hx3 (j_bipush (42 : Int32) rfl kb_42 (j_v1 [.ref x3, .int (42 : Int32)] [] rfl rfl rfl rfl rfl rfl hw4 (Or.inl rfl) (t_Ta_isSign (by omega) hσ5) (g)))))) ?_
        refine J_ite (fun h7 => ?_) (fun h7 => ?_)
        · exact J_some (fun h => j_if_t rfl (cc_eq_t h7) (j_weak (l := [none, none, some (.int v2), none]) (And.intro (Or.inl rfl) (And.intro (Or.inl rfl) (And.intro (Or.inr rfl) (And.intro (Or.inl rfl) True.intro)))) (hX _ _ h)))
        refine J_bind fun x8 hx8 => ?_
        refine J_bind fun w9 hw9 => ?_
        refine J_cl fun _ σ10 hσ10 => ?_
        refine J_bind fun w12 hw12 => ?_
        refine J_cl fun x14 σ13 hσ13 => ?_
        refine J_bind fun w15 hw15 => ?_
        refine J_cl fun _ σ16 hσ16 => ?_
        exact q_J.step (fun g => j_if_f rfl (cc_eq_f h7) (j_aload_n rfl rfl (j_gfr rfl hx8 (j_v0 [.ref x8] [] rfl rfl rfl rfl rfl rfl hw9 (Or.inl rfl) (t_Ta_advance (by omega) hσ10) (j_aload_n rfl rfl (j_iload_n rfl rfl (j_v1 [.ref v0, .int v1] [] rfl rfl rfl rfl rfl rfl hw12 (Or.inl rfl) (HP _ _ _ _ _ _ (by omega) hσ13) (j_istore_n [some (.ref v0), some (.int v1), some (.int x14), some (.int v3)] rfl rfl (Or.inr rfl) rfl (j_aload_n rfl rfl (j_sipush (20008 : Int32) rfl ks_20008 (j_v0 [.ref v0, .int (20008 : Int32)] [] rfl rfl rfl rfl rfl rfl hw15 (Or.inl rfl) (t_Lr_emit (by omega) hσ16) (j_iinc [some (.ref v0), some (.int v1), some (.int x14), some (.int (v3 + (1 : Int32)))] (v3 + (1 : Int32)) rfl rfl (by rw [k32_1]) (Or.inr rfl) rfl (j_goto rfl (g)))))))))))))) (l_Lr_parseProduct_L8 hm HP hd v0 v1 hX n x14 (v3 + (1 : Int32)) σ16)
      exact J_some (fun h => j_icmp_t rfl (cc_ge_t h2) (j_weak (l := [none, none, some (.int v2), none]) (And.intro (Or.inl rfl) (And.intro (Or.inl rfl) (And.intro (Or.inr rfl) (And.intro (Or.inl rfl) True.intro)))) (hX _ _ h)))
    exact J_some (fun h => j_if_t rfl (cc_ne_t h1) (j_weak (l := [none, none, some (.int v2), none]) (And.intro (Or.inl rfl) (And.intro (Or.inl rfl) (And.intro (Or.inr rfl) (And.intro (Or.inl rfl) True.intro)))) (hX _ _ h)))

set_option maxRecDepth 100000 in
theorem b_Lr_parseProduct {fo : Option Nat} {P : q_PF} {m : Nat} (hm : 12 ≤ m) (HP : q_HP fo P m) {d : Nat} (hd : m + 1 ≤ d + 1) {o : q_O} {σ' : q_H} (v0 : Nat) (v1 : Int32) (σ : q_H) : q_J (fun (r : Int32) (σ1 : q_H) => o = .inl (some (.int r)) ∧ σ' = σ1) (f_Lr_parseProduct P v0 v1 σ) (q_G (q_rf fo) d m_Lr_parseProduct o σ' 0 [some (.ref v0), some (.int v1), none, none] [] σ) := by
  unfold f_Lr_parseProduct
  refine J_bind fun w1 hw1 => ?_
  refine J_cl fun x3 σ2 hσ2 => ?_
  refine J_sq (fun (t4 : Int32) (σ5 : q_H) => q_G (q_rf fo) d m_Lr_parseProduct o σ' 57 [none, none, some (.int t4), none] [] σ5) (q_J.step (fun g => j_aload_n rfl rfl (j_iload_n rfl rfl (j_v1 [.ref v0, .int v1] [] rfl rfl rfl rfl rfl rfl hw1 (Or.inl rfl) (HP _ _ _ _ _ _ (by omega) hσ2) (j_istore_n [some (.ref v0), some (.int v1), some (.int x3), none] rfl rfl (Or.inr rfl) rfl (j_iconst (0 : Int32) rfl k32_0 (j_istore_n [some (.ref v0), some (.int v1), some (.int x3), some (.int (0 : Int32))] rfl rfl (Or.inr rfl) rfl (g))))))) (l_Lr_parseProduct_L8 hm HP hd v0 v1 (fun _ _ h => h) q_FU x3 (0 : Int32) σ2)) (fun t4 σ5 => ?_)
  exact J_some (fun h => j_iload_n rfl rfl (j_iret rfl rfl h))
theorem t_Lr_parseProduct {fo : Option Nat} {P : q_PF} {m : Nat} (hm : 12 ≤ m) (HP : q_HP fo P m) {d : Nat} (hd : m + 1 ≤ d) {v0 : Nat} {v1 : Int32} {σ σ1 : q_H} {r : Int32} (h : f_Lr_parseProduct P v0 v1 σ = some (r, σ1)) : q_Rel (q_rf fo) q_Ms d 56 [.ref v0, .int v1] σ (.inl (some (.int r))) σ1 := by
  obtain ⟨d, rfl⟩ : ∃ d1, d = d1 + 1 := ⟨d - 1, by omega⟩
  exact q_Rel.of rfl rfl (b_Lr_parseProduct hm HP hd _ _ σ _ _ h ⟨rfl, rfl⟩)

set_option maxRecDepth 100000 in
theorem l_Lr_parseSum_L8 {fo : Option Nat} {P : q_PF} {m : Nat} (hm : 12 ≤ m) (HP : q_HP fo P m) {d : Nat} (hd : m + 2 ≤ d + 1) {o : q_O} {σ' : q_H} {E : (Int32 ⊕ Int32) → q_H → Prop} (v0 : Nat) (v1 : Int32) (hR : ∀ r σ1, E (.inl r) σ1 → o = .inl (some (.int r)) ∧ σ' = σ1) (hX : ∀ (t : Int32) σ1, E (.inr t) σ1 → q_G (q_rf fo) d m_Lr_parseSum o σ' 86 [none, none, some (.int t), none, none] [] σ1)  : ∀ (n : Nat) (v2 : Int32) (v3 : Int32) (σ : q_H), q_J E (f_Lr_parseSum_L8 P v0 v1 n v2 v3 σ) (q_G (q_rf fo) d m_Lr_parseSum o σ' 8 [some (.ref v0), some (.int v1), some (.int v2), some (.int v3), none] [] σ)
  | 0, v2, v3, σ => J_none
  | n + 1, v2, v3, σ => by
    unfold f_Lr_parseSum_L8
    refine q_J.step (fun g => j_iload_n rfl rfl (g)) ?_
    refine J_ite (fun h1 => ?_) (fun h1 => ?_)
    · refine q_J.step (fun g => j_if_f rfl (cc_ne_f h1) (j_iload_n rfl rfl (j_sipush (1000 : Int32) rfl ks_1000 (g)))) ?_
      refine J_ite (fun h2 => ?_) (fun h2 => ?_)
      · refine J_bind fun x3 hx3 => ?_
        refine J_bind fun w4 hw4 => ?_
        refine J_cl fun x6 σ5 hσ5 => ?_
        refine q_J.step (fun g => j_icmp_f rfl (cc_ge_f h2) (j_aload_n rfl rfl (j_gfr rfl hx3 (j_bipush (43 : Int32) rfl kb_43 (j_v1 [.ref x3, .int (43 : Int32)] [] rfl rfl rfl rfl rfl rfl hw4 (Or.inl rfl) (t_Ta_isSign (by omega) hσ5) (j_istore [some (.ref v0), some (.int v1), some (.int v2), some (.int v3), some (.int x6)] rfl rfl (Or.inr rfl) rfl (j_iload rfl rfl (g)))))))) ?_
        refine J_ite (fun h7 => ?_) (fun h7 => ?_)
        · refine J_bind fun x8 hx8 => ?_
          refine J_bind fun w9 hw9 => ?_
          refine J_cl fun x11 σ10 hσ10 => ?_
          refine q_J.step (fun g => j_if_f rfl (cc_ne_f h7) (j_aload_n rfl rfl (j_gfr rfl hx8 (j_bipush (45 : Int32) rfl kb_45 (j_v1 [.ref x8, .int (45 : Int32)] [] rfl rfl rfl rfl rfl rfl hw9 (Or.inl rfl) (t_Ta_isSign (by omega) hσ10) (g)))))) ?_
          refine J_ite (fun h12 => ?_) (fun h12 => ?_)
          · exact J_some (fun h => j_if_f rfl (cc_ne_f h12) (j_iconst (0 : Int32) rfl k32_0 (j_iret rfl rfl (hR _ _ h))))
          refine J_bind fun x13 hx13 => ?_
          refine J_bind fun w14 hw14 => ?_
          refine J_cl fun _ σ15 hσ15 => ?_
          refine J_bind fun w17 hw17 => ?_
          refine J_cl fun x19 σ18 hσ18 => ?_
          refine q_J.step (fun g => j_if_t rfl (cc_ne_t h12) (j_aload_n rfl rfl (j_gfr rfl hx13 (j_v0 [.ref x13] [] rfl rfl rfl rfl rfl rfl hw14 (Or.inl rfl) (t_Ta_advance (by omega) hσ15) (j_aload_n rfl rfl (j_iload_n rfl rfl (j_v1 [.ref v0, .int v1] [] rfl rfl rfl rfl rfl rfl hw17 (Or.inl rfl) (t_Lr_parseProduct hm HP (by omega) hσ18) (j_istore_n [some (.ref v0), some (.int v1), some (.int x19), some (.int v3), some (.int x6)] rfl rfl (Or.inr rfl) rfl (j_aload_n rfl rfl (j_iload rfl rfl (g))))))))))) ?_
          refine J_sq (fun (t21 : Int32) (σ22 : q_H) => q_G (q_rf fo) d m_Lr_parseSum o σ' 77 [some (.ref v0), some (.int v1), some (.int x19), some (.int v3), none] [.int t21, .ref v0] σ22) ?_ (fun t21 σ22 => ?_)
          · refine J_ite (fun h20 => ?_) (fun h20 => ?_)
            · exact J_some (fun h => j_if_t rfl (cc_eq_t h20) (j_sipush (20007 : Int32) rfl ks_20007 (j_weak (l := [some (.ref v0), some (.int v1), some (.int x19), some (.int v3), none]) (And.intro (Or.inr rfl) (And.intro (Or.inr rfl) (And.intro (Or.inr rfl) (And.intro (Or.inr rfl) (And.intro (Or.inl rfl) True.intro))))) (h))))
            exact J_some (fun h => j_if_f rfl (cc_eq_f h20) (j_sipush (20006 : Int32) rfl ks_20006 (j_goto rfl (j_weak (l := [some (.ref v0), some (.int v1), some (.int x19), some (.int v3), none]) (And.intro (Or.inr rfl) (And.intro (Or.inr rfl) (And.intro (Or.inr rfl) (And.intro (Or.inr rfl) (And.intro (Or.inl rfl) True.intro))))) (h)))))
          refine J_bind fun w23 hw23 => ?_
          refine J_cl fun _ σ24 hσ24 => ?_
          exact q_J.step (fun g => j_v0 [.ref v0, .int t21] [] rfl rfl rfl rfl rfl rfl hw23 (Or.inl rfl) (t_Lr_emit (by omega) hσ24) (j_iinc [some (.ref v0), some (.int v1), some (.int x19), some (.int (v3 + (1 : Int32))), none] (v3 + (1 : Int32)) rfl rfl (by rw [k32_1]) (Or.inr rfl) rfl (j_goto rfl (g)))) (l_Lr_parseSum_L8 hm HP hd v0 v1 hR hX n x19 (v3 + (1 : Int32)) σ24)
        refine J_bind fun x26 hx26 => ?_
        refine J_bind fun w27 hw27 => ?_
        refine J_cl fun _ σ28 hσ28 => ?_
        refine J_bind fun w30 hw30 => ?_
        refine J_cl fun x32 σ31 hσ31 => ?_
        refine q_J.step (fun g => j_if_t rfl (cc_ne_t h7) (j_aload_n rfl rfl (j_gfr rfl hx26 (j_v0 [.ref x26] [] rfl rfl rfl rfl rfl rfl hw27 (Or.inl rfl) (t_Ta_advance (by omega) hσ28) (j_aload_n rfl rfl (j_iload_n rfl rfl (j_v1 [.ref v0, .int v1] [] rfl rfl rfl rfl rfl rfl hw30 (Or.inl rfl) (t_Lr_parseProduct hm HP (by omega) hσ31) (j_istore_n [some (.ref v0), some (.int v1), some (.int x32), some (.int v3), some (.int x6)] rfl rfl (Or.inr rfl) rfl (j_aload_n rfl rfl (j_iload rfl rfl (g))))))))))) ?_
        refine J_sq (fun (t34 : Int32) (σ35 : q_H) => q_G (q_rf fo) d m_Lr_parseSum o σ' 77 [some (.ref v0), some (.int v1), some (.int x32), some (.int v3), none] [.int t34, .ref v0] σ35) ?_ (fun t34 σ35 => ?_)
        · refine J_ite (fun h33 => ?_) (fun h33 => ?_)
          · exact J_some (fun h => j_if_t rfl (cc_eq_t h33) (j_sipush (20007 : Int32) rfl ks_20007 (j_weak (l := [some (.ref v0), some (.int v1), some (.int x32), some (.int v3), none]) (And.intro (Or.inr rfl) (And.intro (Or.inr rfl) (And.intro (Or.inr rfl) (And.intro (Or.inr rfl) (And.intro (Or.inl rfl) True.intro))))) (h))))
          exact J_some (fun h => j_if_f rfl (cc_eq_f h33) (j_sipush (20006 : Int32) rfl ks_20006 (j_goto rfl (j_weak (l := [some (.ref v0), some (.int v1), some (.int x32), some (.int v3), none]) (And.intro (Or.inr rfl) (And.intro (Or.inr rfl) (And.intro (Or.inr rfl) (And.intro (Or.inr rfl) (And.intro (Or.inl rfl) True.intro))))) (h)))))
        refine J_bind fun w36 hw36 => ?_
        refine J_cl fun _ σ37 hσ37 => ?_
        exact q_J.step (fun g => j_v0 [.ref v0, .int t34] [] rfl rfl rfl rfl rfl rfl hw36 (Or.inl rfl) (t_Lr_emit (by omega) hσ37) (j_iinc [some (.ref v0), some (.int v1), some (.int x32), some (.int (v3 + (1 : Int32))), none] (v3 + (1 : Int32)) rfl rfl (by rw [k32_1]) (Or.inr rfl) rfl (j_goto rfl (g)))) (l_Lr_parseSum_L8 hm HP hd v0 v1 hR hX n x32 (v3 + (1 : Int32)) σ37)
      exact J_some (fun h => j_icmp_t rfl (cc_ge_t h2) (j_weak (l := [none, none, some (.int v2), none, none]) (And.intro (Or.inl rfl) (And.intro (Or.inl rfl) (And.intro (Or.inr rfl) (And.intro (Or.inl rfl) (And.intro (Or.inr rfl) True.intro))))) (hX _ _ h)))
    exact J_some (fun h => j_if_t rfl (cc_ne_t h1) (j_weak (l := [none, none, some (.int v2), none, none]) (And.intro (Or.inl rfl) (And.intro (Or.inl rfl) (And.intro (Or.inr rfl) (And.intro (Or.inl rfl) (And.intro (Or.inr rfl) True.intro))))) (hX _ _ h)))

set_option maxRecDepth 100000 in
theorem b_Lr_parseSum {fo : Option Nat} {P : q_PF} {m : Nat} (hm : 12 ≤ m) (HP : q_HP fo P m) {d : Nat} (hd : m + 2 ≤ d + 1) {o : q_O} {σ' : q_H} (v0 : Nat) (v1 : Int32) (σ : q_H) : q_J (fun (r : Int32) (σ1 : q_H) => o = .inl (some (.int r)) ∧ σ' = σ1) (f_Lr_parseSum P v0 v1 σ) (q_G (q_rf fo) d m_Lr_parseSum o σ' 0 [some (.ref v0), some (.int v1), none, none, none] [] σ) := by
  unfold f_Lr_parseSum
  refine J_bind fun w1 hw1 => ?_
  refine J_cl fun x3 σ2 hσ2 => ?_
  refine J_sq (fun (t0 : Int32 ⊕ Int32) (σ5 : q_H) => match t0 with | .inl r => o = .inl (some (.int r)) ∧ σ' = σ5 | .inr t4 => q_G (q_rf fo) d m_Lr_parseSum o σ' 86 [none, none, some (.int t4), none, none] [] σ5) (q_J.step (fun g => j_aload_n rfl rfl (j_iload_n rfl rfl (j_v1 [.ref v0, .int v1] [] rfl rfl rfl rfl rfl rfl hw1 (Or.inl rfl) (t_Lr_parseProduct hm HP (by omega) hσ2) (j_istore_n [some (.ref v0), some (.int v1), some (.int x3), none, none] rfl rfl (Or.inr rfl) rfl (j_iconst (0 : Int32) rfl k32_0 (j_istore_n [some (.ref v0), some (.int v1), some (.int x3), some (.int (0 : Int32)), none] rfl rfl (Or.inr rfl) rfl (g))))))) (l_Lr_parseSum_L8 hm HP hd v0 v1 (fun _ _ h => h) (fun _ _ h => h) q_FU x3 (0 : Int32) σ2)) (fun t0 σ5 => ?_)
  cases t0 with
  | inl r6 => exact J_some (fun h => h)
  | inr t4 =>
    exact J_some (fun h => j_iload_n rfl rfl (j_iret rfl rfl h))
theorem t_Lr_parseSum {fo : Option Nat} {P : q_PF} {m : Nat} (hm : 12 ≤ m) (HP : q_HP fo P m) {d : Nat} (hd : m + 2 ≤ d) {v0 : Nat} {v1 : Int32} {σ σ1 : q_H} {r : Int32} (h : f_Lr_parseSum P v0 v1 σ = some (r, σ1)) : q_Rel (q_rf fo) q_Ms d 55 [.ref v0, .int v1] σ (.inl (some (.int r))) σ1 := by
  obtain ⟨d, rfl⟩ : ∃ d1, d = d1 + 1 := ⟨d - 1, by omega⟩
  exact q_Rel.of rfl rfl (b_Lr_parseSum hm HP hd _ _ σ _ _ h ⟨rfl, rfl⟩)

set_option maxRecDepth 100000 in
theorem b_Lr_parseTest {fo : Option Nat} {P : q_PF} {m : Nat} (hm : 12 ≤ m) (HP : q_HP fo P m) {d : Nat} (hd : m + 3 ≤ d + 1) {o : q_O} {σ' : q_H} (v0 : Nat) (v1 : Int32) (σ : q_H) : q_J (fun (r : Int32) (σ1 : q_H) => o = .inl (some (.int r)) ∧ σ' = σ1) (f_Lr_parseTest P v0 v1 σ) (q_G (q_rf fo) d m_Lr_parseTest o σ' 0 [some (.ref v0), some (.int v1), none, none] [] σ) := by
  unfold f_Lr_parseTest
  refine J_bind fun w1 hw1 => ?_
  refine J_cl fun x3 σ2 hσ2 => ?_
  refine J_bind fun x4 hx4 => ?_
  refine J_bind fun w5 hw5 => ?_
  refine J_cl fun x7 σ6 hσ6 => ?_
  refine q_J.step (fun g => j_aload_n rfl rfl (j_iload_n rfl rfl (j_v1 [.ref v0, .int v1] [] rfl rfl rfl rfl rfl rfl hw1 (Or.inl rfl) (t_Lr_parseSum hm HP (by omega) hσ2) (j_istore_n [some (.ref v0), some (.int v1), some (.int x3), none] rfl rfl (Or.inr rfl) rfl (j_aload_n rfl rfl (j_gfr rfl hx4 (j_bipush (60 : Int32) rfl kb_60 (j_v1 [.ref x4, .int (60 : Int32)] [] rfl rfl rfl rfl rfl rfl hw5 (Or.inl rfl) (t_Ta_isSign (by omega) hσ6) (j_istore_n [some (.ref v0), some (.int v1), some (.int x3), some (.int x7)] rfl rfl (Or.inr rfl) rfl (j_iload_n rfl rfl (g))))))))))) ?_
  refine J_ite (fun h8 => ?_) (fun h8 => ?_)
  · refine q_J.step (fun g => j_if_f rfl (cc_ne_f h8) (j_iload_n rfl rfl (g))) ?_
    refine J_ite (fun h9 => ?_) (fun h9 => ?_)
    · refine J_bind fun x10 hx10 => ?_
      refine J_bind fun w11 hw11 => ?_
      refine J_cl fun x13 σ12 hσ12 => ?_
      refine q_J.step (fun g => j_if_f rfl (cc_ne_f h9) (j_aload_n rfl rfl (j_gfr rfl hx10 (j_bipush (61 : Int32) rfl kb_61 (j_v1 [.ref x10, .int (61 : Int32)] [] rfl rfl rfl rfl rfl rfl hw11 (Or.inl rfl) (t_Ta_isSign (by omega) hσ12) (g)))))) ?_
      refine J_ite (fun h14 => ?_) (fun h14 => ?_)
      · exact J_some (fun h => j_if_f rfl (cc_ne_f h14) (j_iload_n rfl rfl (j_iret rfl rfl h)))
      refine J_bind fun x15 hx15 => ?_
      refine J_bind fun w16 hw16 => ?_
      refine J_cl fun _ σ17 hσ17 => ?_
      refine J_bind fun w19 hw19 => ?_
      refine J_cl fun x21 σ20 hσ20 => ?_
      refine q_J.step (fun g => j_if_t rfl (cc_ne_t h14) (j_aload_n rfl rfl (j_gfr rfl hx15 (j_v0 [.ref x15] [] rfl rfl rfl rfl rfl rfl hw16 (Or.inl rfl) (t_Ta_advance (by omega) hσ17) (j_aload_n rfl rfl (j_iload_n rfl rfl (j_v1 [.ref v0, .int v1] [] rfl rfl rfl rfl rfl rfl hw19 (Or.inl rfl) (t_Lr_parseSum hm HP (by omega) hσ20) (j_istore_n [some (.ref v0), some (.int v1), some (.int x21), some (.int x7)] rfl rfl (Or.inr rfl) rfl (j_aload_n rfl rfl (j_iload_n rfl rfl (g))))))))))) ?_
      refine J_sq (fun (t23 : Int32) (σ24 : q_H) => q_G (q_rf fo) d m_Lr_parseTest o σ' 65 [none, none, some (.int x21), none] [.int t23, .ref v0] σ24) ?_ (fun t23 σ24 => ?_)
      · refine J_ite (fun h22 => ?_) (fun h22 => ?_)
        · exact J_some (fun h => j_if_t rfl (cc_eq_t h22) (j_sipush (20005 : Int32) rfl ks_20005 (j_weak (l := [none, none, some (.int x21), none]) (And.intro (Or.inl rfl) (And.intro (Or.inl rfl) (And.intro (Or.inr rfl) (And.intro (Or.inl rfl) True.intro)))) (h))))
        exact J_some (fun h => j_if_f rfl (cc_eq_f h22) (j_sipush (20004 : Int32) rfl ks_20004 (j_goto rfl (j_weak (l := [none, none, some (.int x21), none]) (And.intro (Or.inl rfl) (And.intro (Or.inl rfl) (And.intro (Or.inr rfl) (And.intro (Or.inl rfl) True.intro)))) (h)))))
      refine J_bind fun w25 hw25 => ?_
      refine J_cl fun _ σ26 hσ26 => ?_
      exact J_some (fun h => j_v0 [.ref v0, .int t23] [] rfl rfl rfl rfl rfl rfl hw25 (Or.inl rfl) (t_Lr_emit (by omega) hσ26) (j_iload_n rfl rfl (j_iret rfl rfl h)))
    refine J_bind fun x28 hx28 => ?_
    refine J_bind fun w29 hw29 => ?_
    refine J_cl fun _ σ30 hσ30 => ?_
    refine J_bind fun w32 hw32 => ?_
    refine J_cl fun x34 σ33 hσ33 => ?_
    refine q_J.step (fun g => j_if_t rfl (cc_ne_t h9) (j_aload_n rfl rfl (j_gfr rfl hx28 (j_v0 [.ref x28] [] rfl rfl rfl rfl rfl rfl hw29 (Or.inl rfl) (t_Ta_advance (by omega) hσ30) (j_aload_n rfl rfl (j_iload_n rfl rfl (j_v1 [.ref v0, .int v1] [] rfl rfl rfl rfl rfl rfl hw32 (Or.inl rfl) (t_Lr_parseSum hm HP (by omega) hσ33) (j_istore_n [some (.ref v0), some (.int v1), some (.int x34), some (.int x7)] rfl rfl (Or.inr rfl) rfl (j_aload_n rfl rfl (j_iload_n rfl rfl (g))))))))))) ?_
    refine J_sq (fun (t36 : Int32) (σ37 : q_H) => q_G (q_rf fo) d m_Lr_parseTest o σ' 65 [none, none, some (.int x34), none] [.int t36, .ref v0] σ37) ?_ (fun t36 σ37 => ?_)
    · refine J_ite (fun h35 => ?_) (fun h35 => ?_)
      · exact J_some (fun h => j_if_t rfl (cc_eq_t h35) (j_sipush (20005 : Int32) rfl ks_20005 (j_weak (l := [none, none, some (.int x34), none]) (And.intro (Or.inl rfl) (And.intro (Or.inl rfl) (And.intro (Or.inr rfl) (And.intro (Or.inl rfl) True.intro)))) (h))))
      exact J_some (fun h => j_if_f rfl (cc_eq_f h35) (j_sipush (20004 : Int32) rfl ks_20004 (j_goto rfl (j_weak (l := [none, none, some (.int x34), none]) (And.intro (Or.inl rfl) (And.intro (Or.inl rfl) (And.intro (Or.inr rfl) (And.intro (Or.inl rfl) True.intro)))) (h)))))
    refine J_bind fun w38 hw38 => ?_
    refine J_cl fun _ σ39 hσ39 => ?_
    exact J_some (fun h => j_v0 [.ref v0, .int t36] [] rfl rfl rfl rfl rfl rfl hw38 (Or.inl rfl) (t_Lr_emit (by omega) hσ39) (j_iload_n rfl rfl (j_iret rfl rfl h)))
  exact J_some (fun h => j_if_t rfl (cc_ne_t h8) (j_iload_n rfl rfl (j_iret rfl rfl h)))
theorem t_Lr_parseTest {fo : Option Nat} {P : q_PF} {m : Nat} (hm : 12 ≤ m) (HP : q_HP fo P m) {d : Nat} (hd : m + 3 ≤ d) {v0 : Nat} {v1 : Int32} {σ σ1 : q_H} {r : Int32} (h : f_Lr_parseTest P v0 v1 σ = some (r, σ1)) : q_Rel (q_rf fo) q_Ms d 54 [.ref v0, .int v1] σ (.inl (some (.int r))) σ1 := by
  obtain ⟨d, rfl⟩ : ∃ d1, d = d1 + 1 := ⟨d - 1, by omega⟩
  exact q_Rel.of rfl rfl (b_Lr_parseTest hm HP hd _ _ σ _ _ h ⟨rfl, rfl⟩)

set_option maxRecDepth 100000 in
theorem l_Lr_parseWhole_L8 {fo : Option Nat} {P : q_PF} {m : Nat} (hm : 12 ≤ m) (HP : q_HP fo P m) {d : Nat} (hd : m + 4 ≤ d + 1) {o : q_O} {σ' : q_H} {E : (Int32 ⊕ Int32) → q_H → Prop} (v0 : Nat) (v1 : Int32) (hR : ∀ r σ1, E (.inl r) σ1 → o = .inl (some (.int r)) ∧ σ' = σ1) (hX : ∀ (t : Int32) σ1, E (.inr t) σ1 → q_G (q_rf fo) d m_Lr_parseWhole o σ' 87 [none, none, some (.int t), none, none] [] σ1)  : ∀ (n : Nat) (v2 : Int32) (v3 : Int32) (σ : q_H), q_J E (f_Lr_parseWhole_L8 P v0 v1 n v2 v3 σ) (q_G (q_rf fo) d m_Lr_parseWhole o σ' 8 [some (.ref v0), some (.int v1), some (.int v2), some (.int v3), none] [] σ)
  | 0, v2, v3, σ => J_none
  | n + 1, v2, v3, σ => by
    unfold f_Lr_parseWhole_L8
    refine q_J.step (fun g => j_iload_n rfl rfl (g)) ?_
    refine J_ite (fun h1 => ?_) (fun h1 => ?_)
    · refine q_J.step (fun g => j_if_f rfl (cc_ne_f h1) (j_iload_n rfl rfl (j_sipush (1000 : Int32) rfl ks_1000 (g)))) ?_
      refine J_ite (fun h2 => ?_) (fun h2 => ?_)
      · refine J_bind fun x3 hx3 => ?_
        refine J_bind fun x4 hx4 => ?_
        refine J_bind fun w5 hw5 => ?_
        refine J_cl fun x7 σ6 hσ6 => ?_
        refine q_J.step (fun g => j_icmp_f rfl (cc_ge_f h2) (j_aload_n rfl rfl (j_gfr rfl hx3 (j_aload_n rfl rfl (j_gfr rfl hx4 (j_v1 [.ref x3, .ref x4] [] rfl rfl rfl rfl rfl rfl hw5 (Or.inl rfl) (t_Ta_wordIn (by omega) hσ6) (j_istore [some (.ref v0), some (.int v1), some (.int v2), some (.int v3), some (.int x7)] rfl rfl (Or.inr rfl) rfl (j_iload rfl rfl (j_bipush (13 : Int32) rfl kb_13 (g)))))))))) ?_
        refine J_ite (fun h8 => ?_) (fun h8 => ?_)
        · refine J_bind fun x9 hx9 => ?_
          refine J_bind fun w10 hw10 => ?_
          refine J_cl fun _ σ11 hσ11 => ?_
          refine J_bind fun w13 hw13 => ?_
          refine J_cl fun x15 σ14 hσ14 => ?_
          refine q_J.step (fun g => j_icmp_t rfl (cc_eq_t h8) (j_aload_n rfl rfl (j_gfr rfl hx9 (j_v0 [.ref x9] [] rfl rfl rfl rfl rfl rfl hw10 (Or.inl rfl) (t_Ta_advance (by omega) hσ11) (j_aload_n rfl rfl (j_iload_n rfl rfl (j_v1 [.ref v0, .int v1] [] rfl rfl rfl rfl rfl rfl hw13 (Or.inl rfl) (t_Lr_parseTest hm HP (by omega) hσ14) (j_istore_n [some (.ref v0), some (.int v1), some (.int x15), some (.int v3), some (.int x7)] rfl rfl (Or.inr rfl) rfl (j_aload_n rfl rfl (j_iload rfl rfl (j_bipush (13 : Int32) rfl kb_13 (g)))))))))))) ?_
          refine J_sq (fun (t17 : Int32) (σ18 : q_H) => q_G (q_rf fo) d m_Lr_parseWhole o σ' 78 [some (.ref v0), some (.int v1), some (.int x15), some (.int v3), none] [.int t17, .ref v0] σ18) ?_ (fun t17 σ18 => ?_)
          · refine J_ite (fun h16 => ?_) (fun h16 => ?_)
            · exact J_some (fun h => j_icmp_f rfl (cc_ne_f h16) (j_sipush (20002 : Int32) rfl ks_20002 (j_goto rfl (j_weak (l := [some (.ref v0), some (.int v1), some (.int x15), some (.int v3), none]) (And.intro (Or.inr rfl) (And.intro (Or.inr rfl) (And.intro (Or.inr rfl) (And.intro (Or.inr rfl) (And.intro (Or.inl rfl) True.intro))))) (h)))))
            exact J_some (fun h => j_icmp_t rfl (cc_ne_t h16) (j_sipush (20003 : Int32) rfl ks_20003 (j_weak (l := [some (.ref v0), some (.int v1), some (.int x15), some (.int v3), none]) (And.intro (Or.inr rfl) (And.intro (Or.inr rfl) (And.intro (Or.inr rfl) (And.intro (Or.inr rfl) (And.intro (Or.inl rfl) True.intro))))) (h))))
          refine J_bind fun w19 hw19 => ?_
          refine J_cl fun _ σ20 hσ20 => ?_
          exact q_J.step (fun g => j_v0 [.ref v0, .int t17] [] rfl rfl rfl rfl rfl rfl hw19 (Or.inl rfl) (t_Lr_emit (by omega) hσ20) (j_iinc [some (.ref v0), some (.int v1), some (.int x15), some (.int (v3 + (1 : Int32))), none] (v3 + (1 : Int32)) rfl rfl (by rw [k32_1]) (Or.inr rfl) rfl (j_goto rfl (g)))) (l_Lr_parseWhole_L8 hm HP hd v0 v1 hR hX n x15 (v3 + (1 : Int32)) σ20)
        refine q_J.step (fun g => j_icmp_f rfl (cc_eq_f h8) (j_iload rfl rfl (j_bipush (14 : Int32) rfl kb_14 (g)))) ?_
        refine J_ite (fun h22 => ?_) (fun h22 => ?_)
        · refine J_bind fun x23 hx23 => ?_
          refine J_bind fun w24 hw24 => ?_
          refine J_cl fun _ σ25 hσ25 => ?_
          refine J_bind fun w27 hw27 => ?_
          refine J_cl fun x29 σ28 hσ28 => ?_
          refine q_J.step (fun g => j_icmp_t rfl (cc_eq_t h22) (j_aload_n rfl rfl (j_gfr rfl hx23 (j_v0 [.ref x23] [] rfl rfl rfl rfl rfl rfl hw24 (Or.inl rfl) (t_Ta_advance (by omega) hσ25) (j_aload_n rfl rfl (j_iload_n rfl rfl (j_v1 [.ref v0, .int v1] [] rfl rfl rfl rfl rfl rfl hw27 (Or.inl rfl) (t_Lr_parseTest hm HP (by omega) hσ28) (j_istore_n [some (.ref v0), some (.int v1), some (.int x29), some (.int v3), some (.int x7)] rfl rfl (Or.inr rfl) rfl (j_aload_n rfl rfl (j_iload rfl rfl (j_bipush (13 : Int32) rfl kb_13 (g)))))))))))) ?_
          refine J_sq (fun (t31 : Int32) (σ32 : q_H) => q_G (q_rf fo) d m_Lr_parseWhole o σ' 78 [some (.ref v0), some (.int v1), some (.int x29), some (.int v3), none] [.int t31, .ref v0] σ32) ?_ (fun t31 σ32 => ?_)
          · refine J_ite (fun h30 => ?_) (fun h30 => ?_)
            · exact J_some (fun h => j_icmp_f rfl (cc_ne_f h30) (j_sipush (20002 : Int32) rfl ks_20002 (j_goto rfl (j_weak (l := [some (.ref v0), some (.int v1), some (.int x29), some (.int v3), none]) (And.intro (Or.inr rfl) (And.intro (Or.inr rfl) (And.intro (Or.inr rfl) (And.intro (Or.inr rfl) (And.intro (Or.inl rfl) True.intro))))) (h)))))
            exact J_some (fun h => j_icmp_t rfl (cc_ne_t h30) (j_sipush (20003 : Int32) rfl ks_20003 (j_weak (l := [some (.ref v0), some (.int v1), some (.int x29), some (.int v3), none]) (And.intro (Or.inr rfl) (And.intro (Or.inr rfl) (And.intro (Or.inr rfl) (And.intro (Or.inr rfl) (And.intro (Or.inl rfl) True.intro))))) (h))))
          refine J_bind fun w33 hw33 => ?_
          refine J_cl fun _ σ34 hσ34 => ?_
          exact q_J.step (fun g => j_v0 [.ref v0, .int t31] [] rfl rfl rfl rfl rfl rfl hw33 (Or.inl rfl) (t_Lr_emit (by omega) hσ34) (j_iinc [some (.ref v0), some (.int v1), some (.int x29), some (.int (v3 + (1 : Int32))), none] (v3 + (1 : Int32)) rfl rfl (by rw [k32_1]) (Or.inr rfl) rfl (j_goto rfl (g)))) (l_Lr_parseWhole_L8 hm HP hd v0 v1 hR hX n x29 (v3 + (1 : Int32)) σ34)
        exact J_some (fun h => j_icmp_f rfl (cc_eq_f h22) (j_iconst (0 : Int32) rfl k32_0 (j_iret rfl rfl (hR _ _ h))))
      exact J_some (fun h => j_icmp_t rfl (cc_ge_t h2) (j_weak (l := [none, none, some (.int v2), none, none]) (And.intro (Or.inl rfl) (And.intro (Or.inl rfl) (And.intro (Or.inr rfl) (And.intro (Or.inl rfl) (And.intro (Or.inr rfl) True.intro))))) (hX _ _ h)))
    exact J_some (fun h => j_if_t rfl (cc_ne_t h1) (j_weak (l := [none, none, some (.int v2), none, none]) (And.intro (Or.inl rfl) (And.intro (Or.inl rfl) (And.intro (Or.inr rfl) (And.intro (Or.inl rfl) (And.intro (Or.inr rfl) True.intro))))) (hX _ _ h)))

set_option maxRecDepth 100000 in
theorem b_Lr_parseWhole {fo : Option Nat} {P : q_PF} {m : Nat} (hm : 12 ≤ m) (HP : q_HP fo P m) {d : Nat} (hd : m + 4 ≤ d + 1) {o : q_O} {σ' : q_H} (v0 : Nat) (v1 : Int32) (σ : q_H) : q_J (fun (r : Int32) (σ1 : q_H) => o = .inl (some (.int r)) ∧ σ' = σ1) (f_Lr_parseWhole P v0 v1 σ) (q_G (q_rf fo) d m_Lr_parseWhole o σ' 0 [some (.ref v0), some (.int v1), none, none, none] [] σ) := by
  unfold f_Lr_parseWhole
  refine J_bind fun w1 hw1 => ?_
  refine J_cl fun x3 σ2 hσ2 => ?_
  refine J_sq (fun (t0 : Int32 ⊕ Int32) (σ5 : q_H) => match t0 with | .inl r => o = .inl (some (.int r)) ∧ σ' = σ5 | .inr t4 => q_G (q_rf fo) d m_Lr_parseWhole o σ' 87 [none, none, some (.int t4), none, none] [] σ5) (q_J.step (fun g => j_aload_n rfl rfl (j_iload_n rfl rfl (j_v1 [.ref v0, .int v1] [] rfl rfl rfl rfl rfl rfl hw1 (Or.inl rfl) (t_Lr_parseTest hm HP (by omega) hσ2) (j_istore_n [some (.ref v0), some (.int v1), some (.int x3), none, none] rfl rfl (Or.inr rfl) rfl (j_iconst (0 : Int32) rfl k32_0 (j_istore_n [some (.ref v0), some (.int v1), some (.int x3), some (.int (0 : Int32)), none] rfl rfl (Or.inr rfl) rfl (g))))))) (l_Lr_parseWhole_L8 hm HP hd v0 v1 (fun _ _ h => h) (fun _ _ h => h) q_FU x3 (0 : Int32) σ2)) (fun t0 σ5 => ?_)
  cases t0 with
  | inl r6 => exact J_some (fun h => h)
  | inr t4 =>
    exact J_some (fun h => j_iload_n rfl rfl (j_iret rfl rfl h))
theorem t_Lr_parseWhole {fo : Option Nat} {P : q_PF} {m : Nat} (hm : 12 ≤ m) (HP : q_HP fo P m) {d : Nat} (hd : m + 4 ≤ d) {v0 : Nat} {v1 : Int32} {σ σ1 : q_H} {r : Int32} (h : f_Lr_parseWhole P v0 v1 σ = some (r, σ1)) : q_Rel (q_rf fo) q_Ms d 53 [.ref v0, .int v1] σ (.inl (some (.int r))) σ1 := by
  obtain ⟨d, rfl⟩ : ∃ d1, d = d1 + 1 := ⟨d - 1, by omega⟩
  exact q_Rel.of rfl rfl (b_Lr_parseWhole hm HP hd _ _ σ _ _ h ⟨rfl, rfl⟩)

set_option maxRecDepth 100000 in
theorem b_Lr_parseInner {fo : Option Nat} {P : q_PF} {m : Nat} (hm : 12 ≤ m) (HP : q_HP fo P m) {d : Nat} (hd : m + 5 ≤ d + 1) {o : q_O} {σ' : q_H} (v0 : Nat) (v1 : Int32) (σ : q_H) : q_J (fun (r : Int32) (σ1 : q_H) => o = .inl (some (.int r)) ∧ σ' = σ1) (f_Lr_parseInner P v0 v1 σ) (q_G (q_rf fo) d m_Lr_parseInner o σ' 0 [some (.ref v0), some (.int v1), none] [] σ) := by
  unfold f_Lr_parseInner
  refine J_bind fun x1 hx1 => ?_
  refine J_bind fun w2 hw2 => ?_
  refine J_cl fun _ σ3 hσ3 => ?_
  refine J_bind fun w5 hw5 => ?_
  refine J_cl fun x7 σ6 hσ6 => ?_
  refine q_J.step (fun g => j_aload_n rfl rfl (j_gfr rfl hx1 (j_v0 [.ref x1] [] rfl rfl rfl rfl rfl rfl hw2 (Or.inl rfl) (t_Ta_advance (by omega) hσ3) (j_aload_n rfl rfl (j_iload_n rfl rfl (j_v1 [.ref v0, .int v1] [] rfl rfl rfl rfl rfl rfl hw5 (Or.inl rfl) (t_Lr_parseWhole hm HP (by omega) hσ6) (j_istore_n [some (.ref v0), some (.int v1), some (.int x7)] rfl rfl (Or.inr rfl) rfl (j_iload_n rfl rfl (g))))))))) ?_
  refine J_ite (fun h8 => ?_) (fun h8 => ?_)
  · refine J_bind fun x9 hx9 => ?_
    refine J_bind fun w10 hw10 => ?_
    refine J_cl fun x12 σ11 hσ11 => ?_
    refine q_J.step (fun g => j_if_t rfl (cc_eq_t h8) (j_aload_n rfl rfl (j_gfr rfl hx9 (j_bipush (41 : Int32) rfl kb_41 (j_v1 [.ref x9, .int (41 : Int32)] [] rfl rfl rfl rfl rfl rfl hw10 (Or.inl rfl) (t_Ta_isSign (by omega) hσ11) (g)))))) ?_
    refine J_ite (fun h13 => ?_) (fun h13 => ?_)
    · refine J_bind fun x14 hx14 => ?_
      refine J_bind fun w15 hw15 => ?_
      refine J_cl fun x17 σ16 hσ16 => ?_
      exact J_some (fun h => j_if_f rfl (cc_ne_f h13) (j_aload_n rfl rfl (j_gfr rfl hx14 (j_iconst (1 : Int32) rfl k32_1 (j_v1 [.ref x14, .int (1 : Int32)] [] rfl rfl rfl rfl rfl rfl hw15 (Or.inl rfl) (t_Ta_fault (by omega) hσ16) (j_iret rfl rfl h))))))
    refine J_bind fun x18 hx18 => ?_
    refine J_bind fun w19 hw19 => ?_
    refine J_cl fun _ σ20 hσ20 => ?_
    exact J_some (fun h => j_if_t rfl (cc_ne_t h13) (j_aload_n rfl rfl (j_gfr rfl hx18 (j_v0 [.ref x18] [] rfl rfl rfl rfl rfl rfl hw19 (Or.inl rfl) (t_Ta_advance (by omega) hσ20) (j_iconst (0 : Int32) rfl k32_0 (j_iret rfl rfl h))))))
  exact J_some (fun h => j_if_f rfl (cc_eq_f h8) (j_iload_n rfl rfl (j_iret rfl rfl h)))
theorem t_Lr_parseInner {fo : Option Nat} {P : q_PF} {m : Nat} (hm : 12 ≤ m) (HP : q_HP fo P m) {d : Nat} (hd : m + 5 ≤ d) {v0 : Nat} {v1 : Int32} {σ σ1 : q_H} {r : Int32} (h : f_Lr_parseInner P v0 v1 σ = some (r, σ1)) : q_Rel (q_rf fo) q_Ms d 58 [.ref v0, .int v1] σ (.inl (some (.int r))) σ1 := by
  obtain ⟨d, rfl⟩ : ∃ d1, d = d1 + 1 := ⟨d - 1, by omega⟩
  exact q_Rel.of rfl rfl (b_Lr_parseInner hm HP hd _ _ σ _ _ h ⟨rfl, rfl⟩)

set_option maxRecDepth 100000 in
theorem b_Lr_bPart {fo : Option Nat} {P : q_PF} {m : Nat} (hm : 12 ≤ m) (HP : q_HP fo P m) {d : Nat} (hd : m + 6 ≤ d + 1) {o : q_O} {σ' : q_H} (v0 : Nat) (v1 : Int32) (σ : q_H) : q_J (fun (r : Int32) (σ1 : q_H) => o = .inl (some (.int r)) ∧ σ' = σ1) (f_Lr_bPart P v0 v1 σ) (q_G (q_rf fo) d m_Lr_parsePart o σ' 0 [some (.ref v0), some (.int v1), none, none, none, none] [] σ) := by
  unfold f_Lr_bPart
  refine J_bind fun x1 hx1 => ?_
  refine J_bind fun x2 hx2 => ?_
  refine J_bind fun w3 hw3 => ?_
  refine J_cl fun x5 σ4 hσ4 => ?_
  refine J_cl fun x7 σ6 hσ6 => ?_
  refine J_bind fun x8 hx8 => ?_
  refine J_bind fun w9 hw9 => ?_
  refine J_cl fun x11 σ10 hσ10 => ?_
  refine q_J.step (fun g => j_aload_n rfl rfl (j_gfr rfl hx1 (j_aload_n rfl rfl (j_gfr rfl hx2 (j_v1 [.ref x1, .ref x2] [] rfl rfl rfl rfl rfl rfl hw3 (Or.inl rfl) (t_Ta_wordIn (by omega) hσ4) (j_istore_n [some (.ref v0), some (.int v1), some (.int x5), none, none, none] rfl rfl (Or.inr rfl) rfl (j_iconst (0 : Int32) rfl k32_0 (j_iload_n rfl rfl (j_bipush (12 : Int32) rfl kb_12 (j_s1 [.int (0 : Int32), .int x5, .int (12 : Int32)] [] rfl rfl rfl rfl rfl (t_Rs_isFrom (by omega) hσ6) (j_istore_n [some (.ref v0), some (.int v1), some (.int x5), some (.int x7), none, none] rfl rfl (Or.inr rfl) rfl (j_aload_n rfl rfl (j_gfr rfl hx8 (j_bipush (40 : Int32) rfl kb_40 (g))))))))))))))) ?_
  refine q_J.step (fun g => j_v1 [.ref x8, .int (40 : Int32)] [] rfl rfl rfl rfl rfl rfl hw9 (Or.inl rfl) (t_Ta_isSign (by omega) hσ10) (j_istore [some (.ref v0), some (.int v1), some (.int x5), some (.int x7), some (.int x11), none] rfl rfl (Or.inr rfl) rfl (j_iload_n rfl rfl (g)))) ?_
  refine J_ite (fun h12 => ?_) (fun h12 => ?_)
  · refine q_J.step (fun g => j_if_f rfl (cc_ne_f h12) (j_iload rfl rfl (g))) ?_
    refine J_ite (fun h13 => ?_) (fun h13 => ?_)
    · refine q_J.step (fun g => j_if_f rfl (cc_ne_f h13) (j_iload_n rfl rfl (j_bipush (15 : Int32) rfl kb_15 (g)))) ?_
      refine J_ite (fun h14 => ?_) (fun h14 => ?_)
      · refine q_J.step (fun g => j_icmp_t rfl (cc_eq_t h14) (j_iload_n rfl rfl (j_iconst (4 : Int32) rfl k32_4 (g)))) ?_
        refine J_ite (fun h15 => ?_) (fun h15 => ?_)
        · refine J_bind fun x16 hx16 => ?_
          refine J_bind fun w17 hw17 => ?_
          refine J_cl fun x19 σ18 hσ18 => ?_
          exact J_some (fun h => j_icmp_f rfl (cc_le_f h15) (j_aload_n rfl rfl (j_gfr rfl hx16 (j_iconst (5 : Int32) rfl k32_5 (j_v1 [.ref x16, .int (5 : Int32)] [] rfl rfl rfl rfl rfl rfl hw17 (Or.inl rfl) (t_Ta_fault (by omega) hσ18) (j_iret rfl rfl h))))))
        refine q_J.step (fun g => j_icmp_t rfl (cc_le_t h15) (j_iload rfl rfl (g))) ?_
        refine J_ite (fun h20 => ?_) (fun h20 => ?_)
        · refine q_J.step (fun g => j_if_t rfl (cc_eq_t h20) (j_iload_n rfl rfl (j_bipush (15 : Int32) rfl kb_15 (g)))) ?_
          refine J_ite (fun h21 => ?_) (fun h21 => ?_)
          · refine J_bind fun x22 hx22 => ?_
            refine J_bind fun w23 hw23 => ?_
            refine J_cl fun _ σ24 hσ24 => ?_
            refine J_bind fun w26 hw26 => ?_
            refine J_cl fun x28 σ27 hσ27 => ?_
            refine J_bind fun w29 hw29 => ?_
            refine J_cl fun _ σ30 hσ30 => ?_
            exact J_some (fun h => j_icmp_f rfl (cc_ne_f h21) (j_aload_n rfl rfl (j_gfr rfl hx22 (j_v0 [.ref x22] [] rfl rfl rfl rfl rfl rfl hw23 (Or.inl rfl) (t_Ta_advance (by omega) hσ24) (j_aload_n rfl rfl (j_iload_n rfl rfl (j_iconst (1 : Int32) rfl k32_1 (j_iadd rfl (j_v1 [.ref v0, .int (v1 + (1 : Int32))] [] rfl rfl rfl rfl rfl rfl hw26 (Or.inl rfl) (HP _ _ _ _ _ _ (by omega) hσ27) (j_istore [some (.ref v0), some (.int v1), some (.int x5), some (.int x7), some (.int x11), some (.int x28)] rfl rfl (Or.inr rfl) rfl (j_aload_n rfl rfl (j_sipush (20001 : Int32) rfl ks_20001 (j_v0 [.ref v0, .int (20001 : Int32)] [] rfl rfl rfl rfl rfl rfl hw29 (Or.inl rfl) (t_Lr_emit (by omega) hσ30) (j_iload rfl rfl (j_iret rfl rfl h)))))))))))))))
          refine q_J.step (fun g => j_icmp_t rfl (cc_ne_t h21) (j_aload_n rfl rfl (j_iload_n rfl rfl (g)))) ?_
          refine J_sq (fun (t35 : Int32) (σ36 : q_H) => q_G (q_rf fo) d m_Lr_parsePart o σ' 146 [some (.ref v0), none, none, none, none, none] [.int t35, .ref v0] σ36) ?_ (fun t35 σ36 => ?_)
          · refine J_ite (fun h32 => ?_) (fun h32 => ?_)
            · refine J_bind fun x33 hx33 => ?_
              refine J_bind fun x34 hx34 => ?_
              exact J_some (fun h => j_if_t rfl (cc_eq_t h32) (j_aload_n rfl rfl (j_gfr rfl hx33 (j_gfl rfl hx34 (j_l2i rfl (j_weak (l := [some (.ref v0), none, none, none, none, none]) (And.intro (Or.inr rfl) (And.intro (Or.inl rfl) (And.intro (Or.inl rfl) (And.intro (Or.inl rfl) (And.intro (Or.inl rfl) (And.intro (Or.inr rfl) True.intro)))))) (h)))))))
            exact J_some (fun h => j_if_f rfl (cc_eq_f h32) (j_sipush (10000 : Int32) rfl ks_10000 (j_iload_n rfl rfl (j_iadd rfl (j_goto rfl (j_weak (l := [some (.ref v0), none, none, none, none, none]) (And.intro (Or.inr rfl) (And.intro (Or.inl rfl) (And.intro (Or.inl rfl) (And.intro (Or.inl rfl) (And.intro (Or.inl rfl) (And.intro (Or.inr rfl) True.intro)))))) (h)))))))
          refine J_bind fun w37 hw37 => ?_
          refine J_cl fun _ σ38 hσ38 => ?_
          refine J_bind fun x40 hx40 => ?_
          refine J_bind fun w41 hw41 => ?_
          refine J_cl fun _ σ42 hσ42 => ?_
          exact J_some (fun h => j_v0 [.ref v0, .int t35] [] rfl rfl rfl rfl rfl rfl hw37 (Or.inl rfl) (t_Lr_emit (by omega) hσ38) (j_aload_n rfl rfl (j_gfr rfl hx40 (j_v0 [.ref x40] [] rfl rfl rfl rfl rfl rfl hw41 (Or.inl rfl) (t_Ta_advance (by omega) hσ42) (j_iconst (0 : Int32) rfl k32_0 (j_iret rfl rfl h))))))
        refine J_bind fun w44 hw44 => ?_
        refine J_cl fun x46 σ45 hσ45 => ?_
        exact J_some (fun h => j_if_f rfl (cc_eq_f h20) (j_aload_n rfl rfl (j_iload_n rfl rfl (j_iconst (1 : Int32) rfl k32_1 (j_iadd rfl (j_v1 [.ref v0, .int (v1 + (1 : Int32))] [] rfl rfl rfl rfl rfl rfl hw44 (Or.inl rfl) (t_Lr_parseInner hm HP (by omega) hσ45) (j_iret rfl rfl h)))))))
      refine J_bind fun x47 hx47 => ?_
      refine J_bind fun x48 hx48 => ?_
      refine q_J.step (fun g => j_icmp_f rfl (cc_eq_f h14) (j_aload_n rfl rfl (j_gfr rfl hx47 (j_gfi rfl hx48 (j_iconst (2 : Int32) rfl k32_2 (g)))))) ?_
      refine J_ite (fun h49 => ?_) (fun h49 => ?_)
      · refine q_J.step (fun g => j_icmp_t rfl (cc_eq_t h49) (j_iload_n rfl rfl (j_iconst (4 : Int32) rfl k32_4 (g)))) ?_
        refine J_ite (fun h50 => ?_) (fun h50 => ?_)
        · refine J_bind fun x51 hx51 => ?_
          refine J_bind fun w52 hw52 => ?_
          refine J_cl fun x54 σ53 hσ53 => ?_
          exact J_some (fun h => j_icmp_f rfl (cc_le_f h50) (j_aload_n rfl rfl (j_gfr rfl hx51 (j_iconst (5 : Int32) rfl k32_5 (j_v1 [.ref x51, .int (5 : Int32)] [] rfl rfl rfl rfl rfl rfl hw52 (Or.inl rfl) (t_Ta_fault (by omega) hσ53) (j_iret rfl rfl h))))))
        refine q_J.step (fun g => j_icmp_t rfl (cc_le_t h50) (j_iload rfl rfl (g))) ?_
        refine J_ite (fun h55 => ?_) (fun h55 => ?_)
        · refine q_J.step (fun g => j_if_t rfl (cc_eq_t h55) (j_iload_n rfl rfl (j_bipush (15 : Int32) rfl kb_15 (g)))) ?_
          refine J_ite (fun h56 => ?_) (fun h56 => ?_)
          · refine J_bind fun x57 hx57 => ?_
            refine J_bind fun w58 hw58 => ?_
            refine J_cl fun _ σ59 hσ59 => ?_
            refine J_bind fun w61 hw61 => ?_
            refine J_cl fun x63 σ62 hσ62 => ?_
            refine J_bind fun w64 hw64 => ?_
            refine J_cl fun _ σ65 hσ65 => ?_
            exact J_some (fun h => j_icmp_f rfl (cc_ne_f h56) (j_aload_n rfl rfl (j_gfr rfl hx57 (j_v0 [.ref x57] [] rfl rfl rfl rfl rfl rfl hw58 (Or.inl rfl) (t_Ta_advance (by omega) hσ59) (j_aload_n rfl rfl (j_iload_n rfl rfl (j_iconst (1 : Int32) rfl k32_1 (j_iadd rfl (j_v1 [.ref v0, .int (v1 + (1 : Int32))] [] rfl rfl rfl rfl rfl rfl hw61 (Or.inl rfl) (HP _ _ _ _ _ _ (by omega) hσ62) (j_istore [some (.ref v0), some (.int v1), some (.int x5), some (.int x7), some (.int x11), some (.int x63)] rfl rfl (Or.inr rfl) rfl (j_aload_n rfl rfl (j_sipush (20001 : Int32) rfl ks_20001 (j_v0 [.ref v0, .int (20001 : Int32)] [] rfl rfl rfl rfl rfl rfl hw64 (Or.inl rfl) (t_Lr_emit (by omega) hσ65) (j_iload rfl rfl (j_iret rfl rfl h)))))))))))))))
          refine q_J.step (fun g => j_icmp_t rfl (cc_ne_t h56) (j_aload_n rfl rfl (j_iload_n rfl rfl (g)))) ?_
          refine J_sq (fun (t70 : Int32) (σ71 : q_H) => q_G (q_rf fo) d m_Lr_parsePart o σ' 146 [some (.ref v0), none, none, none, none, none] [.int t70, .ref v0] σ71) ?_ (fun t70 σ71 => ?_)
          · refine J_ite (fun h67 => ?_) (fun h67 => ?_)
            · refine J_bind fun x68 hx68 => ?_
              refine J_bind fun x69 hx69 => ?_
              exact J_some (fun h => j_if_t rfl (cc_eq_t h67) (j_aload_n rfl rfl (j_gfr rfl hx68 (j_gfl rfl hx69 (j_l2i rfl (j_weak (l := [some (.ref v0), none, none, none, none, none]) (And.intro (Or.inr rfl) (And.intro (Or.inl rfl) (And.intro (Or.inl rfl) (And.intro (Or.inl rfl) (And.intro (Or.inl rfl) (And.intro (Or.inr rfl) True.intro)))))) (h)))))))
            exact J_some (fun h => j_if_f rfl (cc_eq_f h67) (j_sipush (10000 : Int32) rfl ks_10000 (j_iload_n rfl rfl (j_iadd rfl (j_goto rfl (j_weak (l := [some (.ref v0), none, none, none, none, none]) (And.intro (Or.inr rfl) (And.intro (Or.inl rfl) (And.intro (Or.inl rfl) (And.intro (Or.inl rfl) (And.intro (Or.inl rfl) (And.intro (Or.inr rfl) True.intro)))))) (h)))))))
          refine J_bind fun w72 hw72 => ?_
          refine J_cl fun _ σ73 hσ73 => ?_
          refine J_bind fun x75 hx75 => ?_
          refine J_bind fun w76 hw76 => ?_
          refine J_cl fun _ σ77 hσ77 => ?_
          exact J_some (fun h => j_v0 [.ref v0, .int t70] [] rfl rfl rfl rfl rfl rfl hw72 (Or.inl rfl) (t_Lr_emit (by omega) hσ73) (j_aload_n rfl rfl (j_gfr rfl hx75 (j_v0 [.ref x75] [] rfl rfl rfl rfl rfl rfl hw76 (Or.inl rfl) (t_Ta_advance (by omega) hσ77) (j_iconst (0 : Int32) rfl k32_0 (j_iret rfl rfl h))))))
        refine J_bind fun w79 hw79 => ?_
        refine J_cl fun x81 σ80 hσ80 => ?_
        exact J_some (fun h => j_if_f rfl (cc_eq_f h55) (j_aload_n rfl rfl (j_iload_n rfl rfl (j_iconst (1 : Int32) rfl k32_1 (j_iadd rfl (j_v1 [.ref v0, .int (v1 + (1 : Int32))] [] rfl rfl rfl rfl rfl rfl hw79 (Or.inl rfl) (t_Lr_parseInner hm HP (by omega) hσ80) (j_iret rfl rfl h)))))))
      refine J_bind fun x82 hx82 => ?_
      refine J_bind fun w83 hw83 => ?_
      refine J_cl fun x85 σ84 hσ84 => ?_
      exact J_some (fun h => j_icmp_f rfl (cc_eq_f h49) (j_aload_n rfl rfl (j_gfr rfl hx82 (j_iconst (1 : Int32) rfl k32_1 (j_v1 [.ref x82, .int (1 : Int32)] [] rfl rfl rfl rfl rfl rfl hw83 (Or.inl rfl) (t_Ta_fault (by omega) hσ84) (j_iret rfl rfl h))))))
    refine q_J.step (fun g => j_if_t rfl (cc_ne_t h13) (j_iload_n rfl rfl (j_iconst (4 : Int32) rfl k32_4 (g)))) ?_
    refine J_ite (fun h86 => ?_) (fun h86 => ?_)
    · refine J_bind fun x87 hx87 => ?_
      refine J_bind fun w88 hw88 => ?_
      refine J_cl fun x90 σ89 hσ89 => ?_
      exact J_some (fun h => j_icmp_f rfl (cc_le_f h86) (j_aload_n rfl rfl (j_gfr rfl hx87 (j_iconst (5 : Int32) rfl k32_5 (j_v1 [.ref x87, .int (5 : Int32)] [] rfl rfl rfl rfl rfl rfl hw88 (Or.inl rfl) (t_Ta_fault (by omega) hσ89) (j_iret rfl rfl h))))))
    refine q_J.step (fun g => j_icmp_t rfl (cc_le_t h86) (j_iload rfl rfl (g))) ?_
    refine J_ite (fun h91 => ?_) (fun h91 => ?_)
    · refine q_J.step (fun g => j_if_t rfl (cc_eq_t h91) (j_iload_n rfl rfl (j_bipush (15 : Int32) rfl kb_15 (g)))) ?_
      refine J_ite (fun h92 => ?_) (fun h92 => ?_)
      · refine J_bind fun x93 hx93 => ?_
        refine J_bind fun w94 hw94 => ?_
        refine J_cl fun _ σ95 hσ95 => ?_
        refine J_bind fun w97 hw97 => ?_
        refine J_cl fun x99 σ98 hσ98 => ?_
        refine J_bind fun w100 hw100 => ?_
        refine J_cl fun _ σ101 hσ101 => ?_
        exact J_some (fun h => j_icmp_f rfl (cc_ne_f h92) (j_aload_n rfl rfl (j_gfr rfl hx93 (j_v0 [.ref x93] [] rfl rfl rfl rfl rfl rfl hw94 (Or.inl rfl) (t_Ta_advance (by omega) hσ95) (j_aload_n rfl rfl (j_iload_n rfl rfl (j_iconst (1 : Int32) rfl k32_1 (j_iadd rfl (j_v1 [.ref v0, .int (v1 + (1 : Int32))] [] rfl rfl rfl rfl rfl rfl hw97 (Or.inl rfl) (HP _ _ _ _ _ _ (by omega) hσ98) (j_istore [some (.ref v0), some (.int v1), some (.int x5), some (.int x7), some (.int x11), some (.int x99)] rfl rfl (Or.inr rfl) rfl (j_aload_n rfl rfl (j_sipush (20001 : Int32) rfl ks_20001 (j_v0 [.ref v0, .int (20001 : Int32)] [] rfl rfl rfl rfl rfl rfl hw100 (Or.inl rfl) (t_Lr_emit (by omega) hσ101) (j_iload rfl rfl (j_iret rfl rfl h)))))))))))))))
      refine q_J.step (fun g => j_icmp_t rfl (cc_ne_t h92) (j_aload_n rfl rfl (j_iload_n rfl rfl (g)))) ?_
      refine J_sq (fun (t106 : Int32) (σ107 : q_H) => q_G (q_rf fo) d m_Lr_parsePart o σ' 146 [some (.ref v0), none, none, none, none, none] [.int t106, .ref v0] σ107) ?_ (fun t106 σ107 => ?_)
      · refine J_ite (fun h103 => ?_) (fun h103 => ?_)
        · refine J_bind fun x104 hx104 => ?_
          refine J_bind fun x105 hx105 => ?_
          exact J_some (fun h => j_if_t rfl (cc_eq_t h103) (j_aload_n rfl rfl (j_gfr rfl hx104 (j_gfl rfl hx105 (j_l2i rfl (j_weak (l := [some (.ref v0), none, none, none, none, none]) (And.intro (Or.inr rfl) (And.intro (Or.inl rfl) (And.intro (Or.inl rfl) (And.intro (Or.inl rfl) (And.intro (Or.inl rfl) (And.intro (Or.inr rfl) True.intro)))))) (h)))))))
        exact J_some (fun h => j_if_f rfl (cc_eq_f h103) (j_sipush (10000 : Int32) rfl ks_10000 (j_iload_n rfl rfl (j_iadd rfl (j_goto rfl (j_weak (l := [some (.ref v0), none, none, none, none, none]) (And.intro (Or.inr rfl) (And.intro (Or.inl rfl) (And.intro (Or.inl rfl) (And.intro (Or.inl rfl) (And.intro (Or.inl rfl) (And.intro (Or.inr rfl) True.intro)))))) (h)))))))
      refine J_bind fun w108 hw108 => ?_
      refine J_cl fun _ σ109 hσ109 => ?_
      refine J_bind fun x111 hx111 => ?_
      refine J_bind fun w112 hw112 => ?_
      refine J_cl fun _ σ113 hσ113 => ?_
      exact J_some (fun h => j_v0 [.ref v0, .int t106] [] rfl rfl rfl rfl rfl rfl hw108 (Or.inl rfl) (t_Lr_emit (by omega) hσ109) (j_aload_n rfl rfl (j_gfr rfl hx111 (j_v0 [.ref x111] [] rfl rfl rfl rfl rfl rfl hw112 (Or.inl rfl) (t_Ta_advance (by omega) hσ113) (j_iconst (0 : Int32) rfl k32_0 (j_iret rfl rfl h))))))
    refine J_bind fun w115 hw115 => ?_
    refine J_cl fun x117 σ116 hσ116 => ?_
    exact J_some (fun h => j_if_f rfl (cc_eq_f h91) (j_aload_n rfl rfl (j_iload_n rfl rfl (j_iconst (1 : Int32) rfl k32_1 (j_iadd rfl (j_v1 [.ref v0, .int (v1 + (1 : Int32))] [] rfl rfl rfl rfl rfl rfl hw115 (Or.inl rfl) (t_Lr_parseInner hm HP (by omega) hσ116) (j_iret rfl rfl h)))))))
  refine q_J.step (fun g => j_if_t rfl (cc_ne_t h12) (j_iload_n rfl rfl (j_iconst (4 : Int32) rfl k32_4 (g)))) ?_
  refine J_ite (fun h118 => ?_) (fun h118 => ?_)
  · refine J_bind fun x119 hx119 => ?_
    refine J_bind fun w120 hw120 => ?_
    refine J_cl fun x122 σ121 hσ121 => ?_
    exact J_some (fun h => j_icmp_f rfl (cc_le_f h118) (j_aload_n rfl rfl (j_gfr rfl hx119 (j_iconst (5 : Int32) rfl k32_5 (j_v1 [.ref x119, .int (5 : Int32)] [] rfl rfl rfl rfl rfl rfl hw120 (Or.inl rfl) (t_Ta_fault (by omega) hσ121) (j_iret rfl rfl h))))))
  refine q_J.step (fun g => j_icmp_t rfl (cc_le_t h118) (j_iload rfl rfl (g))) ?_
  refine J_ite (fun h123 => ?_) (fun h123 => ?_)
  · refine q_J.step (fun g => j_if_t rfl (cc_eq_t h123) (j_iload_n rfl rfl (j_bipush (15 : Int32) rfl kb_15 (g)))) ?_
    refine J_ite (fun h124 => ?_) (fun h124 => ?_)
    · refine J_bind fun x125 hx125 => ?_
      refine J_bind fun w126 hw126 => ?_
      refine J_cl fun _ σ127 hσ127 => ?_
      refine J_bind fun w129 hw129 => ?_
      refine J_cl fun x131 σ130 hσ130 => ?_
      refine J_bind fun w132 hw132 => ?_
      refine J_cl fun _ σ133 hσ133 => ?_
      exact J_some (fun h => j_icmp_f rfl (cc_ne_f h124) (j_aload_n rfl rfl (j_gfr rfl hx125 (j_v0 [.ref x125] [] rfl rfl rfl rfl rfl rfl hw126 (Or.inl rfl) (t_Ta_advance (by omega) hσ127) (j_aload_n rfl rfl (j_iload_n rfl rfl (j_iconst (1 : Int32) rfl k32_1 (j_iadd rfl (j_v1 [.ref v0, .int (v1 + (1 : Int32))] [] rfl rfl rfl rfl rfl rfl hw129 (Or.inl rfl) (HP _ _ _ _ _ _ (by omega) hσ130) (j_istore [some (.ref v0), some (.int v1), some (.int x5), some (.int x7), some (.int x11), some (.int x131)] rfl rfl (Or.inr rfl) rfl (j_aload_n rfl rfl (j_sipush (20001 : Int32) rfl ks_20001 (j_v0 [.ref v0, .int (20001 : Int32)] [] rfl rfl rfl rfl rfl rfl hw132 (Or.inl rfl) (t_Lr_emit (by omega) hσ133) (j_iload rfl rfl (j_iret rfl rfl h)))))))))))))))
    refine q_J.step (fun g => j_icmp_t rfl (cc_ne_t h124) (j_aload_n rfl rfl (j_iload_n rfl rfl (g)))) ?_
    refine J_sq (fun (t138 : Int32) (σ139 : q_H) => q_G (q_rf fo) d m_Lr_parsePart o σ' 146 [some (.ref v0), none, none, none, none, none] [.int t138, .ref v0] σ139) ?_ (fun t138 σ139 => ?_)
    · refine J_ite (fun h135 => ?_) (fun h135 => ?_)
      · refine J_bind fun x136 hx136 => ?_
        refine J_bind fun x137 hx137 => ?_
        exact J_some (fun h => j_if_t rfl (cc_eq_t h135) (j_aload_n rfl rfl (j_gfr rfl hx136 (j_gfl rfl hx137 (j_l2i rfl (j_weak (l := [some (.ref v0), none, none, none, none, none]) (And.intro (Or.inr rfl) (And.intro (Or.inl rfl) (And.intro (Or.inl rfl) (And.intro (Or.inl rfl) (And.intro (Or.inl rfl) (And.intro (Or.inr rfl) True.intro)))))) (h)))))))
      exact J_some (fun h => j_if_f rfl (cc_eq_f h135) (j_sipush (10000 : Int32) rfl ks_10000 (j_iload_n rfl rfl (j_iadd rfl (j_goto rfl (j_weak (l := [some (.ref v0), none, none, none, none, none]) (And.intro (Or.inr rfl) (And.intro (Or.inl rfl) (And.intro (Or.inl rfl) (And.intro (Or.inl rfl) (And.intro (Or.inl rfl) (And.intro (Or.inr rfl) True.intro)))))) (h)))))))
    refine J_bind fun w140 hw140 => ?_
    refine J_cl fun _ σ141 hσ141 => ?_
    refine J_bind fun x143 hx143 => ?_
    refine J_bind fun w144 hw144 => ?_
    refine J_cl fun _ σ145 hσ145 => ?_
    exact J_some (fun h => j_v0 [.ref v0, .int t138] [] rfl rfl rfl rfl rfl rfl hw140 (Or.inl rfl) (t_Lr_emit (by omega) hσ141) (j_aload_n rfl rfl (j_gfr rfl hx143 (j_v0 [.ref x143] [] rfl rfl rfl rfl rfl rfl hw144 (Or.inl rfl) (t_Ta_advance (by omega) hσ145) (j_iconst (0 : Int32) rfl k32_0 (j_iret rfl rfl h))))))
  refine J_bind fun w147 hw147 => ?_
  refine J_cl fun x149 σ148 hσ148 => ?_
  exact J_some (fun h => j_if_f rfl (cc_eq_f h123) (j_aload_n rfl rfl (j_iload_n rfl rfl (j_iconst (1 : Int32) rfl k32_1 (j_iadd rfl (j_v1 [.ref v0, .int (v1 + (1 : Int32))] [] rfl rfl rfl rfl rfl rfl hw147 (Or.inl rfl) (t_Lr_parseInner hm HP (by omega) hσ148) (j_iret rfl rfl h)))))))
theorem t_Lr_bPart {fo : Option Nat} {P : q_PF} {m : Nat} (hm : 12 ≤ m) (HP : q_HP fo P m) {d : Nat} (hd : m + 6 ≤ d) {v0 : Nat} {v1 : Int32} {σ σ1 : q_H} {r : Int32} (h : f_Lr_bPart P v0 v1 σ = some (r, σ1)) : q_Rel (q_rf fo) q_Ms d 57 [.ref v0, .int v1] σ (.inl (some (.int r))) σ1 := by
  obtain ⟨d, rfl⟩ : ∃ d1, d = d1 + 1 := ⟨d - 1, by omega⟩
  exact q_Rel.of rfl rfl (b_Lr_bPart hm HP hd _ _ σ _ _ h ⟨rfl, rfl⟩)

theorem t_Lr_parsePart {fo : Option Nat} : ∀ n : Nat, q_HP fo (f_Lr_parsePart n) (12 + 6 * n)
  | 0 => fun _ _ _ _ _ _ _ h => by cases h
  | n + 1 => fun _ _ _ _ _ _ hd h => t_Lr_bPart (by omega) (t_Lr_parsePart n) (by omega) h
set_option maxRecDepth 100000 in
theorem b_Lr_parseLawLine {fo : Option Nat} {d : Nat} (hd : 65 ≤ d + 1) {o : q_O} {σ' : q_H} (v0 : Nat) (σ : q_H) : q_J (fun (r : Int32) (σ1 : q_H) => o = .inl (some (.int r)) ∧ σ' = σ1) (f_Lr_parseLawLine v0 σ) (q_G (q_rf fo) d m_Lr_parseLawLine o σ' 0 [some (.ref v0), none] [] σ) := by
  unfold f_Lr_parseLawLine
  refine J_bind fun x1 hx1 => ?_
  refine J_bind fun w2 hw2 => ?_
  refine J_cl fun _ σ3 hσ3 => ?_
  refine J_bind fun x5 hx5 => ?_
  refine J_bind fun x6 hx6 => ?_
  refine J_bind fun w7 hw7 => ?_
  refine J_cl fun x9 σ8 hσ8 => ?_
  refine q_J.step (fun g => j_aload_n rfl rfl (j_gfr rfl hx1 (j_v0 [.ref x1] [] rfl rfl rfl rfl rfl rfl hw2 (Or.inl rfl) (t_Ta_advance (by omega) hσ3) (j_aload_n rfl rfl (j_gfr rfl hx5 (j_aload_n rfl rfl (j_gfr rfl hx6 (j_v1 [.ref x5, .ref x6] [] rfl rfl rfl rfl rfl rfl hw7 (Or.inl rfl) (t_Ta_wordIn (by omega) hσ8) (j_bipush (17 : Int32) rfl kb_17 (g)))))))))) ?_
  refine J_ite (fun h10 => ?_) (fun h10 => ?_)
  · refine J_bind fun x11 hx11 => ?_
    refine J_bind fun w12 hw12 => ?_
    refine J_cl fun _ σ13 hσ13 => ?_
    refine J_bind fun w15 hw15 => ?_
    refine J_cl fun x17 σ16 hσ16 => ?_
    refine q_J.step (fun g => j_icmp_t rfl (cc_eq_t h10) (j_aload_n rfl rfl (j_gfr rfl hx11 (j_v0 [.ref x11] [] rfl rfl rfl rfl rfl rfl hw12 (Or.inl rfl) (t_Ta_advance (by omega) hσ13) (j_aload_n rfl rfl (j_iconst (0 : Int32) rfl k32_0 (j_v1 [.ref v0, .int (0 : Int32)] [] rfl rfl rfl rfl rfl rfl hw15 (Or.inl rfl) (t_Lr_parseWhole (by unfold q_FD; omega) (t_Lr_parsePart q_FD) (by unfold q_FD; omega) hσ16) (j_istore_n [some (.ref v0), some (.int x17)] rfl rfl (Or.inr rfl) rfl (j_iload_n rfl rfl (g)))))))))) ?_
    refine J_ite (fun h18 => ?_) (fun h18 => ?_)
    · refine J_bind fun w19 hw19 => ?_
      refine J_cl fun _ σ20 hσ20 => ?_
      refine J_bind fun x22 hx22 => ?_
      refine J_bind fun w23 hw23 => ?_
      refine J_cl fun x25 σ24 hσ24 => ?_
      refine q_J.step (fun g => j_if_t rfl (cc_eq_t h18) (j_aload_n rfl rfl (j_sipush (20000 : Int32) rfl ks_20000 (j_v0 [.ref v0, .int (20000 : Int32)] [] rfl rfl rfl rfl rfl rfl hw19 (Or.inl rfl) (t_Lr_emit (by omega) hσ20) (j_aload_n rfl rfl (j_gfr rfl hx22 (j_bipush (59 : Int32) rfl kb_59 (j_v1 [.ref x22, .int (59 : Int32)] [] rfl rfl rfl rfl rfl rfl hw23 (Or.inl rfl) (t_Ta_isSign (by omega) hσ24) (g))))))))) ?_
      refine J_ite (fun h26 => ?_) (fun h26 => ?_)
      · refine J_bind fun x27 hx27 => ?_
        refine J_bind fun w28 hw28 => ?_
        refine J_cl fun x30 σ29 hσ29 => ?_
        exact J_some (fun h => j_if_t rfl (cc_eq_t h26) (j_aload_n rfl rfl (j_gfr rfl hx27 (j_iconst (1 : Int32) rfl k32_1 (j_v1 [.ref x27, .int (1 : Int32)] [] rfl rfl rfl rfl rfl rfl hw28 (Or.inl rfl) (t_Ta_fault (by omega) hσ29) (j_iret rfl rfl h))))))
      exact J_some (fun h => j_if_f rfl (cc_eq_f h26) (j_iconst (0 : Int32) rfl k32_0 (j_goto rfl (j_iret rfl rfl h))))
    exact J_some (fun h => j_if_f rfl (cc_eq_f h18) (j_iload_n rfl rfl (j_iret rfl rfl h)))
  refine J_bind fun x31 hx31 => ?_
  refine J_bind fun w32 hw32 => ?_
  refine J_cl fun x34 σ33 hσ33 => ?_
  exact J_some (fun h => j_icmp_f rfl (cc_eq_f h10) (j_aload_n rfl rfl (j_gfr rfl hx31 (j_iconst (1 : Int32) rfl k32_1 (j_v1 [.ref x31, .int (1 : Int32)] [] rfl rfl rfl rfl rfl rfl hw32 (Or.inl rfl) (t_Ta_fault (by omega) hσ33) (j_iret rfl rfl h))))))
theorem t_Lr_parseLawLine {fo : Option Nat} {d : Nat} (hd : 65 ≤ d) {v0 : Nat} {σ σ1 : q_H} {r : Int32} (h : f_Lr_parseLawLine v0 σ = some (r, σ1)) : q_Rel (q_rf fo) q_Ms d 52 [.ref v0] σ (.inl (some (.int r))) σ1 := by
  obtain ⟨d, rfl⟩ : ∃ d1, d = d1 + 1 := ⟨d - 1, by omega⟩
  exact q_Rel.of rfl rfl (b_Lr_parseLawLine hd _ σ _ _ h ⟨rfl, rfl⟩)

set_option maxRecDepth 100000 in
theorem l_Lr_parse_L9 {fo : Option Nat} {d : Nat} (hd : 66 ≤ d + 1) {o : q_O} {σ' : q_H} {E : (Int32 ⊕ Unit) → q_H → Prop} (v0 : Nat) (hR : ∀ r σ1, E (.inl r) σ1 → o = .inl (some (.int r)) ∧ σ' = σ1) (hX : ∀ (t : Unit) σ1, E (.inr t) σ1 → q_G (q_rf fo) d m_Lr_parse o σ' 98 [none, none, none] [] σ1)  : ∀ (n : Nat) (v1 : Int32) (σ : q_H), q_J E (f_Lr_parse_L9 v0 n v1 σ) (q_G (q_rf fo) d m_Lr_parse o σ' 9 [some (.ref v0), some (.int v1), none] [] σ)
  | 0, v1, σ => J_none
  | n + 1, v1, σ => by
    unfold f_Lr_parse_L9
    refine q_J.step (fun g => j_iload_n rfl rfl (j_bipush (6 : Int32) rfl kb_6 (g))) ?_
    refine J_ite (fun h1 => ?_) (fun h1 => ?_)
    · exact J_some (fun h => j_icmp_t rfl (cc_gt_t h1) (j_weak (l := [none, none, none]) (And.intro (Or.inl rfl) (And.intro (Or.inl rfl) (And.intro (Or.inr rfl) True.intro))) (hX _ _ h)))
    refine J_bind fun x2 hx2 => ?_
    refine J_bind fun w3 hw3 => ?_
    refine J_cl fun _ σ4 hσ4 => ?_
    refine J_bind fun x6 hx6 => ?_
    refine J_bind fun x7 hx7 => ?_
    refine q_J.step (fun g => j_icmp_f rfl (cc_gt_f h1) (j_aload_n rfl rfl (j_gfr rfl hx2 (j_v0 [.ref x2] [] rfl rfl rfl rfl rfl rfl hw3 (Or.inl rfl) (t_Ta_advance (by omega) hσ4) (j_aload_n rfl rfl (j_gfr rfl hx6 (j_gfi rfl hx7 (g)))))))) ?_
    refine J_ite (fun h8 => ?_) (fun h8 => ?_)
    · exact J_some (fun h => j_if_f rfl (cc_ne_f h8) (j_iconst (0 : Int32) rfl k32_0 (j_iret rfl rfl (hR _ _ h))))
    refine J_bind fun x9 hx9 => ?_
    refine J_bind fun x10 hx10 => ?_
    refine J_bind fun w11 hw11 => ?_
    refine J_cl fun x13 σ12 hσ12 => ?_
    refine q_J.step (fun g => j_if_t rfl (cc_ne_t h8) (j_aload_n rfl rfl (j_gfr rfl hx9 (j_aload_n rfl rfl (j_gfr rfl hx10 (j_v1 [.ref x9, .ref x10] [] rfl rfl rfl rfl rfl rfl hw11 (Or.inl rfl) (t_Ta_wordIn (by omega) hσ12) (j_bipush (16 : Int32) rfl kb_16 (g)))))))) ?_
    refine J_ite (fun h14 => ?_) (fun h14 => ?_)
    · refine q_J.step (fun g => j_icmp_t rfl (cc_eq_t h14) (j_iload_n rfl rfl (j_bipush (6 : Int32) rfl kb_6 (g)))) ?_
      refine J_ite (fun h15 => ?_) (fun h15 => ?_)
      · refine J_bind fun x16 hx16 => ?_
        refine J_bind fun w17 hw17 => ?_
        refine J_cl fun x19 σ18 hσ18 => ?_
        exact J_some (fun h => j_icmp_f rfl (cc_ne_f h15) (j_aload_n rfl rfl (j_gfr rfl hx16 (j_iconst (5 : Int32) rfl k32_5 (j_v1 [.ref x16, .int (5 : Int32)] [] rfl rfl rfl rfl rfl rfl hw17 (Or.inl rfl) (t_Ta_fault (by omega) hσ18) (j_iret rfl rfl (hR _ _ h)))))))
      refine J_bind fun w20 hw20 => ?_
      refine J_cl fun x22 σ21 hσ21 => ?_
      refine q_J.step (fun g => j_icmp_t rfl (cc_ne_t h15) (j_aload_n rfl rfl (j_v1 [.ref v0] [] rfl rfl rfl rfl rfl rfl hw20 (Or.inl rfl) (t_Lr_parseLawLine (by omega) hσ21) (j_istore_n [some (.ref v0), some (.int v1), some (.int x22)] rfl rfl (Or.inr rfl) rfl (j_iload_n rfl rfl (g)))))) ?_
      refine J_ite (fun h23 => ?_) (fun h23 => ?_)
      · refine J_bind fun σ24 hσ24 => ?_
        exact q_J.step (fun g => j_if_t rfl (cc_eq_t h23) (j_aload_n rfl rfl (j_iload_n rfl rfl (j_iconst (1 : Int32) rfl k32_1 (j_iadd rfl (j_putf rfl rfl rfl rfl hσ24 (j_iinc [some (.ref v0), some (.int (v1 + (1 : Int32))), some (.int x22)] (v1 + (1 : Int32)) rfl rfl (by rw [k32_1]) (Or.inr rfl) rfl (j_goto rfl (j_weak (l := [some (.ref v0), some (.int (v1 + (1 : Int32))), none]) (And.intro (Or.inr rfl) (And.intro (Or.inr rfl) (And.intro (Or.inl rfl) True.intro))) (g)))))))))) (l_Lr_parse_L9 hd v0 hR hX n (v1 + (1 : Int32)) σ24)
      exact J_some (fun h => j_if_f rfl (cc_eq_f h23) (j_iload_n rfl rfl (j_iret rfl rfl (hR _ _ h))))
    refine J_bind fun x25 hx25 => ?_
    refine J_bind fun w26 hw26 => ?_
    refine J_cl fun x28 σ27 hσ27 => ?_
    exact J_some (fun h => j_icmp_f rfl (cc_eq_f h14) (j_aload_n rfl rfl (j_gfr rfl hx25 (j_iconst (1 : Int32) rfl k32_1 (j_v1 [.ref x25, .int (1 : Int32)] [] rfl rfl rfl rfl rfl rfl hw26 (Or.inl rfl) (t_Ta_fault (by omega) hσ27) (j_iret rfl rfl (hR _ _ h)))))))

set_option maxRecDepth 100000 in
theorem b_Lr_parse {fo : Option Nat} {d : Nat} (hd : 66 ≤ d + 1) {o : q_O} {σ' : q_H} (v0 : Nat) (σ : q_H) : q_J (fun (r : Int32) (σ1 : q_H) => o = .inl (some (.int r)) ∧ σ' = σ1) (f_Lr_parse v0 σ) (q_G (q_rf fo) d m_Lr_parse o σ' 0 [some (.ref v0), none, none] [] σ) := by
  unfold f_Lr_parse
  refine J_bind fun x1 hx1 => ?_
  refine J_bind fun w2 hw2 => ?_
  refine J_cl fun _ σ3 hσ3 => ?_
  refine J_sq (fun (t0 : Int32 ⊕ Unit) (σ6 : q_H) => match t0 with | .inl r => o = .inl (some (.int r)) ∧ σ' = σ6 | .inr t5 => q_G (q_rf fo) d m_Lr_parse o σ' 98 [none, none, none] [] σ6) (q_J.step (fun g => j_aload_n rfl rfl (j_gfr rfl hx1 (j_v0 [.ref x1] [] rfl rfl rfl rfl rfl rfl hw2 (Or.inl rfl) (t_Ta_start (by omega) hσ3) (j_iconst (0 : Int32) rfl k32_0 (j_istore_n [some (.ref v0), some (.int (0 : Int32)), none] rfl rfl (Or.inr rfl) rfl (g)))))) (l_Lr_parse_L9 hd v0 (fun _ _ h => h) (fun _ _ h => h) q_FU (0 : Int32) σ3)) (fun t0 σ6 => ?_)
  cases t0 with
  | inl r7 => exact J_some (fun h => h)
  | inr t5 =>
    exact J_some (fun h => j_iconst (0 : Int32) rfl k32_0 (j_iret rfl rfl h))
theorem t_Lr_parse {fo : Option Nat} {d : Nat} (hd : 66 ≤ d) {v0 : Nat} {σ σ1 : q_H} {r : Int32} (h : f_Lr_parse v0 σ = some (r, σ1)) : q_Rel (q_rf fo) q_Ms d 51 [.ref v0] σ (.inl (some (.int r))) σ1 := by
  obtain ⟨d, rfl⟩ : ∃ d1, d = d1 + 1 := ⟨d - 1, by omega⟩
  exact q_Rel.of rfl rfl (b_Lr_parse hd _ σ _ _ h ⟨rfl, rfl⟩)

set_option maxRecDepth 100000 in
theorem b_Rs_law {fo : Option Nat} {d : Nat} (hd : 67 ≤ d + 1) {o : q_O} {σ' : q_H} (v0 : Nat) (v1 : Int32) (σ : q_H) : q_J (fun (r : Int32) (σ1 : q_H) => o = .inl (some (.int r)) ∧ σ' = σ1) (f_Rs_law v0 v1 σ) (q_G (q_rf fo) d m_Rs_law o σ' 0 [some (.ref v0), some (.int v1), none, none] [] σ) := by
  unfold f_Rs_law
  refine J_cl fun x2 σ1 hσ1 => ?_
  refine q_J.step (fun g => j_iconst (0 : Int32) rfl k32_0 (j_iload_n rfl rfl (j_iconst (3 : Int32) rfl k32_3 (j_s1 [.int (0 : Int32), .int v1, .int (3 : Int32)] [] rfl rfl rfl rfl rfl (t_Rs_isFrom (by omega) hσ1) (g))))) ?_
  refine J_ite (fun h3 => ?_) (fun h3 => ?_)
  · refine J_bind fun x4 hx4 => ?_
    refine J_bind fun σ5 hσ5 => ?_
    exact J_some (fun h => j_if_f rfl (cc_ne_f h3) (j_aload_n rfl rfl (j_gfr rfl hx4 (j_iconst (0 : Int32) rfl k32_0 (j_putf rfl rfl rfl rfl hσ5 (j_iconst (-1 : Int32) rfl k32_m1 (j_iret rfl rfl h)))))))
  refine J_ma fun σ6 a7 hσ6 ha7 => ?_
  refine J_bind fun x8 hx8 => ?_
  refine J_bind fun x9 hx9 => ?_
  refine J_cl fun _ σ10 hσ10 => ?_
  refine J_bind fun w12 hw12 => ?_
  refine J_cl fun x14 σ13 hσ13 => ?_
  refine J_bind fun x15 hx15 => ?_
  refine J_bind fun σ16 hσ16 => ?_
  refine q_J.step (fun g => j_if_t rfl (cc_ne_t h3) (j_newk2 [.null, .null, .null, .int 0, .int 0] rfl rfl rfl hσ6 ha7 (j_dup rfl rfl (j_aload_n rfl rfl (j_gfr rfl hx8 (j_aload_n rfl rfl (j_gfr rfl hx9 (j_i0 [.ref a7, .ref x8, .ref x9] [.ref a7] rfl rfl rfl rfl rfl rfl (t_Lr_init (by omega) hσ10) (j_astore_n [some (.ref v0), some (.int v1), some (.ref a7), none] rfl rfl (Or.inr rfl) rfl (j_aload_n rfl rfl (j_v1 [.ref a7] [] rfl rfl rfl rfl rfl rfl hw12 (Or.inl rfl) (t_Lr_parse (by omega) hσ13) (j_istore_n [some (.ref v0), some (.int v1), some (.ref a7), some (.int x14)] rfl rfl (Or.inr rfl) rfl (j_aload_n rfl rfl (j_gfr rfl hx15 (g))))))))))))))) ?_
  refine q_J.step (fun g => j_iconst (0 : Int32) rfl k32_0 (j_putf rfl rfl rfl rfl hσ16 (j_iload_n rfl rfl (g)))) ?_
  refine J_ite (fun h17 => ?_) (fun h17 => ?_)
  · refine J_bind fun x18 hx18 => ?_
    refine J_ma fun σ19 a20 hσ19 ha20 => ?_
    refine J_bind fun x21 hx21 => ?_
    refine J_bind fun x22 hx22 => ?_
    refine J_bind fun x23 hx23 => ?_
    refine J_cl fun _ σ24 hσ24 => ?_
    refine J_bind fun w27 hw27 => ?_
    refine J_bind fun σ26 hσ26 => ?_
    exact J_some (fun h => j_if_f rfl (cc_ne_f h17) (j_aload_n rfl rfl (j_gfr rfl hx18 (j_iload_n rfl rfl (j_newk2 [.null, .int 0, .int 0, .null] rfl rfl rfl hσ19 ha20 (j_dup rfl rfl (j_aload_n rfl rfl (j_gfr rfl hx21 (j_aload_n rfl rfl (j_gfi rfl hx22 (j_aload_n rfl rfl (j_gfi rfl hx23 (j_i0 [.ref a20, .ref x21, .int x22, .int x23] [.ref a20, .int v1, .ref x18] rfl rfl rfl rfl rfl rfl (t_La_init (by omega) hσ24) (j_aas rfl (Or.inr (Or.inr ⟨rfl, rfl⟩)) (Or.inr ⟨_, _, rfl, q_ob_some.mp hw27⟩) hσ26 (j_iload_n rfl rfl (j_iret rfl rfl h))))))))))))))))
  exact J_some (fun h => j_if_t rfl (cc_ne_t h17) (j_iload_n rfl rfl (j_iret rfl rfl h)))
theorem t_Rs_law {fo : Option Nat} {d : Nat} (hd : 67 ≤ d) {v0 : Nat} {v1 : Int32} {σ σ1 : q_H} {r : Int32} (h : f_Rs_law v0 v1 σ = some (r, σ1)) : q_Rel (q_rf fo) q_Ms d 144 [.ref v0, .int v1] σ (.inl (some (.int r))) σ1 := by
  obtain ⟨d, rfl⟩ : ∃ d1, d = d1 + 1 := ⟨d - 1, by omega⟩
  exact q_Rel.of rfl rfl (b_Rs_law hd _ _ σ _ _ h ⟨rfl, rfl⟩)

