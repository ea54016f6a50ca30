/-! Methods of the reference: walks. -/
set_option maxRecDepth 100000 in
theorem l_Mo_init_L386 {fo : Option Nat} {d : Nat} (hd : 1 ≤ d + 1) {o : q_O} {σ' : q_H} {E : (Unit) → q_H → Prop} (v0 : Nat) (hX : ∀ (t : Unit) σ1, E (t) σ1 → q_G (q_rf fo) d m_Mo_init o σ' 407 [none, none] [] σ1)  : ∀ (n : Nat) (v1 : Int32) (σ : q_H), q_J E (f_Mo_init_L386 v0 n v1 σ) (q_G (q_rf fo) d m_Mo_init o σ' 386 [some (.ref v0), some (.int v1)] [] σ)
  | 0, v1, σ => J_none
  | n + 1, v1, σ => by
    unfold f_Mo_init_L386
    refine q_J.step (fun g => j_iload_n rfl rfl (j_bipush (68 : Int32) rfl kb_68 (g))) ?_
    refine J_ite (fun h1 => ?_) (fun h1 => ?_)
    · refine J_bind fun x2 hx2 => ?_
      refine J_bind fun σ3 hσ3 => ?_
      exact q_J.step (fun g => j_icmp_f rfl (cc_ge_f h1) (j_aload_n rfl rfl (j_gfr rfl hx2 (j_iload_n rfl rfl (j_sipush (1000 : Int32) rfl ks_1000 (j_ias rfl hσ3 (j_iinc [some (.ref v0), some (.int (v1 + (1 : Int32)))] (v1 + (1 : Int32)) rfl rfl (by rw [k32_1]) (Or.inr rfl) rfl (j_goto rfl (g))))))))) (l_Mo_init_L386 hd v0 hX n (v1 + (1 : Int32)) σ3)
    exact J_some (fun h => j_icmp_t rfl (cc_ge_t h1) (j_weak (l := [none, none]) (And.intro (Or.inl rfl) (And.intro (Or.inl rfl) True.intro)) (hX _ _ h)))

set_option maxRecDepth 100000 in
theorem b_Mo_init {fo : Option Nat} {d : Nat} (hd : 1 ≤ d + 1) {o : q_O} {σ' : q_H} (v0 : Nat) (σ : q_H) : q_J (fun (r : Unit) (σ1 : q_H) => o = .inl none ∧ σ' = σ1) (f_Mo_init v0 σ) (q_G (q_rf fo) d m_Mo_init o σ' 0 [some (.ref v0), none] [] σ) := by
  unfold f_Mo_init
  refine J_ma fun σ1 a2 hσ1 ha2 => ?_
  refine J_bind fun σ3 hσ3 => ?_
  refine J_ma fun σ4 a5 hσ4 ha5 => ?_
  refine J_bind fun σ6 hσ6 => ?_
  refine J_ma fun σ7 a8 hσ7 ha8 => ?_
  refine J_bind fun σ9 hσ9 => ?_
  refine J_ma fun σ10 a11 hσ10 ha11 => ?_
  refine J_bind fun σ12 hσ12 => ?_
  refine J_ma fun σ13 a14 hσ13 ha14 => ?_
  refine J_bind fun σ15 hσ15 => ?_
  refine J_ma fun σ16 a17 hσ16 ha17 => ?_
  refine J_bind fun σ18 hσ18 => ?_
  refine J_ma fun σ19 a20 hσ19 ha20 => ?_
  refine J_bind fun σ21 hσ21 => ?_
  refine J_ma fun σ22 a23 hσ22 ha23 => ?_
  refine J_bind fun σ24 hσ24 => ?_
  refine J_ma fun σ25 a26 hσ25 ha26 => ?_
  refine J_bind fun σ27 hσ27 => ?_
  refine J_ma fun σ28 a29 hσ28 ha29 => ?_
  refine J_bind fun σ30 hσ30 => ?_
  refine J_ma fun σ31 a32 hσ31 ha32 => ?_
  refine J_bind fun σ33 hσ33 => ?_
  refine J_ma fun σ34 a35 hσ34 ha35 => ?_
  refine J_bind fun σ36 hσ36 => ?_
  refine J_ma fun σ37 a38 hσ37 ha38 => ?_
  refine J_bind fun σ39 hσ39 => ?_
  refine J_ma fun σ40 a41 hσ40 ha41 => ?_
  refine J_bind fun σ42 hσ42 => ?_
  refine J_ma fun σ43 a44 hσ43 ha44 => ?_
  refine J_bind fun σ45 hσ45 => ?_
  refine J_ma fun σ46 a47 hσ46 ha47 => ?_
  refine J_bind fun σ48 hσ48 => ?_
  refine J_ma fun σ49 a50 hσ49 ha50 => ?_
  refine J_bind fun σ51 hσ51 => ?_
  refine J_ma fun σ52 a53 hσ52 ha53 => ?_
  refine J_bind fun σ54 hσ54 => ?_
  refine J_ma fun σ55 a56 hσ55 ha56 => ?_
  refine J_bind fun σ57 hσ57 => ?_
  refine J_ma fun σ58 a59 hσ58 ha59 => ?_
  refine J_bind fun σ60 hσ60 => ?_
  refine J_ma fun σ61 a62 hσ61 ha62 => ?_
  refine J_bind fun σ63 hσ63 => ?_
  refine J_ma fun σ64 a65 hσ64 ha65 => ?_
  refine J_bind fun σ66 hσ66 => ?_
  refine J_ma fun σ67 a68 hσ67 ha68 => ?_
  refine J_bind fun σ69 hσ69 => ?_
  refine J_ma fun σ70 a71 hσ70 ha71 => ?_
  refine J_bind fun σ72 hσ72 => ?_
  refine J_ma fun σ73 a74 hσ73 ha74 => ?_
  refine J_bind fun σ75 hσ75 => ?_
  refine J_ma fun σ76 a77 hσ76 ha77 => ?_
  refine J_bind fun σ78 hσ78 => ?_
  refine J_ma fun σ79 a80 hσ79 ha80 => ?_
  refine J_bind fun σ81 hσ81 => ?_
  refine J_ma fun σ82 a83 hσ82 ha83 => ?_
  refine J_bind fun σ84 hσ84 => ?_
  refine J_ma fun σ85 a86 hσ85 ha86 => ?_
  refine J_bind fun σ87 hσ87 => ?_
  refine J_ma fun σ88 a89 hσ88 ha89 => ?_
  refine J_bind fun σ90 hσ90 => ?_
  refine J_ma fun σ91 a92 hσ91 ha92 => ?_
  refine J_bind fun σ93 hσ93 => ?_
  refine J_ma fun σ94 a95 hσ94 ha95 => ?_
  refine J_bind fun σ96 hσ96 => ?_
  refine J_ma fun σ97 a98 hσ97 ha98 => ?_
  refine J_bind fun σ99 hσ99 => ?_
  refine J_ma fun σ100 a101 hσ100 ha101 => ?_
  refine J_bind fun σ102 hσ102 => ?_
  refine J_ma fun σ103 a104 hσ103 ha104 => ?_
  refine J_bind fun σ105 hσ105 => ?_
  refine J_ma fun σ106 a107 hσ106 ha107 => ?_
  refine J_bind fun σ108 hσ108 => ?_
  refine J_ma fun σ109 a110 hσ109 ha110 => ?_
  refine J_bind fun σ111 hσ111 => ?_
  refine J_ma fun σ112 a113 hσ112 ha113 => ?_
  refine J_bind fun σ114 hσ114 => ?_
  refine J_ma fun σ115 a116 hσ115 ha116 => ?_
  refine J_bind fun σ117 hσ117 => ?_
  refine J_ma fun σ118 a119 hσ118 ha119 => ?_
  refine J_bind fun σ120 hσ120 => ?_
  refine J_ma fun σ121 a122 hσ121 ha122 => ?_
  refine J_bind fun σ123 hσ123 => ?_
  refine J_ma fun σ124 a125 hσ124 ha125 => ?_
  refine J_bind fun σ126 hσ126 => ?_
  refine J_ma fun σ127 a128 hσ127 ha128 => ?_
  refine J_bind fun σ129 hσ129 => ?_
  refine J_ma fun σ130 a131 hσ130 ha131 => ?_
  refine J_bind fun σ132 hσ132 => ?_
  refine J_ma fun σ133 a134 hσ133 ha134 => ?_
  refine J_bind fun σ135 hσ135 => ?_
  refine J_ma fun σ136 a137 hσ136 ha137 => ?_
  refine J_bind fun σ138 hσ138 => ?_
  refine J_sq (fun (t139 : Unit) (σ140 : q_H) => q_G (q_rf fo) d m_Mo_init o σ' 407 [none, none] [] σ140) (q_J.step (fun g => j_aload_n rfl rfl (j_obj rfl rfl (j_aload_n rfl rfl (j_bipush (6 : Int32) rfl kb_6 (j_newk 6 (.int 0) rfl rfl rfl (by decide) (by decide) hσ1 ha2 (j_putf rfl rfl rfl rfl hσ3 (j_aload_n rfl rfl (j_bipush (24 : Int32) rfl kb_24 (j_newk 24 (.int 0) rfl rfl rfl (by decide) (by decide) hσ4 ha5 (j_putf rfl rfl rfl rfl hσ6 (j_aload_n rfl rfl (j_bipush (24 : Int32) rfl kb_24 (j_newk 24 (.int 0) rfl rfl rfl (by decide) (by decide) hσ7 ha8 (j_putf rfl rfl rfl rfl hσ9 (j_aload_n rfl rfl (j_bipush (24 : Int32) rfl kb_24 (j_newk 24 (.int 0) rfl rfl rfl (by decide) (by decide) hσ10 ha11 (j_putf rfl rfl rfl rfl hσ12 (j_aload_n rfl rfl (j_bipush (24 : Int32) rfl kb_24 (j_newk 24 (.int 0) rfl rfl rfl (by decide) (by decide) hσ13 ha14 (j_putf rfl rfl rfl rfl hσ15 (j_aload_n rfl rfl (j_bipush (24 : Int32) rfl kb_24 (j_newk 24 (.int 0) rfl rfl rfl (by decide) (by decide) hσ16 ha17 (j_putf rfl rfl rfl rfl hσ18 (j_aload_n rfl rfl (j_bipush (25 : Int32) rfl kb_25 (j_newk 25 (.int 0) rfl rfl rfl (by decide) (by decide) hσ19 ha20 (j_putf rfl rfl rfl rfl hσ21 (j_aload_n rfl rfl (j_sipush (300 : Int32) rfl ks_300 (j_newk 300 (.int 0) rfl rfl rfl (by decide) (by decide) hσ22 ha23 (j_putf rfl rfl rfl rfl hσ24 (j_aload_n rfl rfl (j_sipush (300 : Int32) rfl ks_300 (j_newk 300 (.int 0) rfl rfl rfl (by decide) (by decide) hσ25 ha26 (j_putf rfl rfl rfl rfl hσ27 (j_aload_n rfl rfl (j_sipush (300 : Int32) rfl ks_300 (j_newk 300 (.int 0) rfl rfl rfl (by decide) (by decide) hσ28 ha29 (j_putf rfl rfl rfl rfl hσ30 (j_aload_n rfl rfl (j_sipush (300 : Int32) rfl ks_300 (j_newk 300 (.int 0) rfl rfl rfl (by decide) (by decide) hσ31 ha32 (j_putf rfl rfl rfl rfl hσ33 (j_aload_n rfl rfl (j_sipush (300 : Int32) rfl ks_300 (j_newk 300 (.int 0) rfl rfl rfl (by decide) (by decide) hσ34 ha35 (j_putf rfl rfl rfl rfl hσ36 (j_aload_n rfl rfl (j_sipush (300 : Int32) rfl ks_300 (j_newk 300 (.long 0) rfl rfl rfl (by decide) (by decide) hσ37 ha38 (j_putf rfl rfl rfl rfl hσ39 (j_aload_n rfl rfl (j_sipush (300 : Int32) rfl ks_300 (j_newk 300 (.long 0) rfl rfl rfl (by decide) (by decide) hσ40 ha41 (j_putf rfl rfl rfl rfl hσ42 (j_aload_n rfl rfl (j_sipush (300 : Int32) rfl ks_300 (j_newk 300 (.long 0) rfl rfl rfl (by decide) (by decide) hσ43 ha44 (j_putf rfl rfl rfl rfl hσ45 (j_aload_n rfl rfl (j_sipush (1000 : Int32) rfl ks_1000 (j_newk 1000 (.int 0) rfl rfl rfl (by decide) (by decide) hσ46 ha47 (j_putf rfl rfl rfl rfl hσ48 (j_aload_n rfl rfl (j_bipush (24 : Int32) rfl kb_24 (j_newk 24 (.int 0) rfl rfl rfl (by decide) (by decide) hσ49 ha50 (j_putf rfl rfl rfl rfl hσ51 (j_aload_n rfl rfl (j_bipush (68 : Int32) rfl kb_68 (j_newk 68 (.int 0) rfl rfl rfl (by decide) (by decide) hσ52 ha53 (j_putf rfl rfl rfl rfl hσ54 (j_aload_n rfl rfl (j_bipush (17 : Int32) rfl kb_17 (j_newk 17 (.int 0) rfl rfl rfl (by decide) (by decide) hσ55 ha56 (j_putf rfl rfl rfl rfl hσ57 (j_aload_n rfl rfl (j_iconst (4 : Int32) rfl k32_4 (j_newk 4 (.int 0) rfl rfl rfl (by decide) (by decide) hσ58 ha59 (j_putf rfl rfl rfl rfl hσ60 (j_aload_n rfl rfl (j_iconst (5 : Int32) rfl k32_5 (j_newk 5 (.int 0) rfl rfl rfl (by decide) (by decide) hσ61 ha62 (j_putf rfl rfl rfl rfl hσ63 (j_aload_n rfl rfl (j_bipush (30 : Int32) rfl kb_30 (j_newk 30 (.int 0) rfl rfl rfl (by decide) (by decide) hσ64 ha65 (j_putf rfl rfl rfl rfl hσ66 (j_aload_n rfl rfl (j_bipush (30 : Int32) rfl kb_30 (j_newk 30 (.int 0) rfl rfl rfl (by decide) (by decide) hσ67 ha68 (j_putf rfl rfl rfl rfl hσ69 (j_aload_n rfl rfl (j_sipush (5000 : Int32) rfl ks_5000 (j_newk 5000 (.int 0) rfl rfl rfl (by decide) (by decide) hσ70 ha71 (j_putf rfl rfl rfl rfl hσ72 (j_aload_n rfl rfl (j_bipush (7 : Int32) rfl kb_7 (j_newk 7 (.int 0) rfl rfl rfl (by decide) (by decide) hσ73 ha74 (j_putf rfl rfl rfl rfl hσ75 (j_aload_n rfl rfl (j_bipush (7 : Int32) rfl kb_7 (j_newk 7 (.int 0) rfl rfl rfl (by decide) (by decide) hσ76 ha77 (j_putf rfl rfl rfl rfl hσ78 (j_aload_n rfl rfl (j_bipush (7 : Int32) rfl kb_7 (j_newk 7 (.int 0) rfl rfl rfl (by decide) (by decide) hσ79 ha80 (j_putf rfl rfl rfl rfl hσ81 (j_aload_n rfl rfl (j_bipush (7 : Int32) rfl kb_7 (j_newk 7 (.int 0) rfl rfl rfl (by decide) (by decide) hσ82 ha83 (j_putf rfl rfl rfl rfl hσ84 (j_aload_n rfl rfl (j_bipush (7 : Int32) rfl kb_7 (j_newk 7 (.int 0) rfl rfl rfl (by decide) (by decide) hσ85 ha86 (j_putf rfl rfl rfl rfl hσ87 (j_aload_n rfl rfl (j_bipush (7 : Int32) rfl kb_7 (j_newk 7 (.int 0) rfl rfl rfl (by decide) (by decide) hσ88 ha89 (j_putf rfl rfl rfl rfl hσ90 (j_aload_n rfl rfl (j_bipush (7 : Int32) rfl kb_7 (j_newk 7 (.int 0) rfl rfl rfl (by decide) (by decide) hσ91 ha92 (j_putf rfl rfl rfl rfl hσ93 (j_aload_n rfl rfl (j_bipush (7 : Int32) rfl kb_7 (j_newk 7 (.int 0) rfl rfl rfl (by decide) (by decide) hσ94 ha95 (j_putf rfl rfl rfl rfl hσ96 (j_aload_n rfl rfl (j_bipush (7 : Int32) rfl kb_7 (j_newk 7 (.int 0) rfl rfl rfl (by decide) (by decide) hσ97 ha98 (j_putf rfl rfl rfl rfl hσ99 (j_aload_n rfl rfl (j_bipush (7 : Int32) rfl kb_7 (j_newk 7 (.int 0) rfl rfl rfl (by decide) (by decide) hσ100 ha101 (j_putf rfl rfl rfl rfl hσ102 (j_aload_n rfl rfl (j_bipush (7 : Int32) rfl kb_7 (j_newk 7 (.int 0) rfl rfl rfl (by decide) (by decide) hσ103 ha104 (j_putf rfl rfl rfl rfl hσ105 (j_aload_n rfl rfl (j_bipush (20 : Int32) rfl kb_20 (j_newk 20 (.int 0) rfl rfl rfl (by decide) (by decide) hσ106 ha107 (j_putf rfl rfl rfl rfl hσ108 (j_aload_n rfl rfl (j_bipush (6 : Int32) rfl kb_6 (j_newk 6 (.int 0) rfl rfl rfl (by decide) (by decide) hσ109 ha110 (j_putf rfl rfl rfl rfl hσ111 (j_aload_n rfl rfl (j_bipush (6 : Int32) rfl kb_6 (j_newk 6 (.int 0) rfl rfl rfl (by decide) (by decide) hσ112 ha113 (j_putf rfl rfl rfl rfl hσ114 (j_aload_n rfl rfl (j_bipush (6 : Int32) rfl kb_6 (j_newk 6 (.int 0) rfl rfl rfl (by decide) (by decide) hσ115 ha116 (j_putf rfl rfl rfl rfl hσ117 (j_aload_n rfl rfl (j_sipush (225 : Int32) rfl ks_225 (j_newk 225 (.int 0) rfl rfl rfl (by decide) (by decide) hσ118 ha119 (j_putf rfl rfl rfl rfl hσ120 (j_aload_n rfl rfl (j_sipush (225 : Int32) rfl ks_225 (j_newk 225 (.int 0) rfl rfl rfl (by decide) (by decide) hσ121 ha122 (j_putf rfl rfl rfl rfl hσ123 (j_aload_n rfl rfl (j_iconst (4 : Int32) rfl k32_4 (j_newk 4 (.int 0) rfl rfl rfl (by decide) (by decide) hσ124 ha125 (j_putf rfl rfl rfl rfl hσ126 (j_aload_n rfl rfl (j_bipush (24 : Int32) rfl kb_24 (j_newk 24 (.int 0) rfl rfl rfl (by decide) (by decide) hσ127 ha128 (j_putf rfl rfl rfl rfl hσ129 (j_aload_n rfl rfl (j_sipush (576 : Int32) rfl ks_576 (j_newk 576 (.int 0) rfl rfl rfl (by decide) (by decide) hσ130 ha131 (j_putf rfl rfl rfl rfl hσ132 (j_aload_n rfl rfl (j_sipush (5760 : Int32) rfl ks_5760 (j_newk 5760 (.int 0) rfl rfl rfl (by decide) (by decide) hσ133 ha134 (j_putf rfl rfl rfl rfl hσ135 (j_aload_n rfl rfl (j_sipush (3456 : Int32) rfl ks_3456 (j_newk 3456 (.long 0) rfl rfl rfl (by decide) (by decide) hσ136 ha137 (j_putf rfl rfl rfl rfl hσ138 (j_iconst (0 : Int32) rfl k32_0 (j_istore_n [some (.ref v0), some (.int (0 : Int32))] rfl rfl (Or.inr rfl) rfl (g))))))))))))))))))))))))))))))))))))))))))))))))))))))))))))))))))))))))))))))))))))))))))))))))))))))))))))))))))))))))))))))))))))))))))))))))))))))))))))))))))))))))))))))))))))))))))))) (l_Mo_init_L386 hd v0 (fun _ _ h => h) q_FU (0 : Int32) σ138)) (fun t139 σ140 => ?_)
  exact J_some (fun h => j_vret rfl rfl h)
theorem t_Mo_init {fo : Option Nat} {d : Nat} (hd : 1 ≤ d) {v0 : Nat} {σ σ1 : q_H} {r : Unit} (h : f_Mo_init v0 σ = some (r, σ1)) : q_Rel (q_rf fo) q_Ms d 169 [.ref v0] σ (.inl none) σ1 := by
  obtain ⟨d, rfl⟩ : ∃ d1, d = d1 + 1 := ⟨d - 1, by omega⟩
  exact q_Rel.of rfl rfl (b_Mo_init hd _ σ _ _ h ⟨rfl, rfl⟩)

set_option maxRecDepth 100000 in
theorem b_Mo_thrown {fo : Option Nat} {d : Nat} (hd : 1 ≤ d + 1) {o : q_O} {σ' : q_H} (v0 : Nat) (σ : q_H) : q_J (fun (r : Int32) (σ1 : q_H) => o = .inl (some (.int r)) ∧ σ' = σ1) (f_Mo_thrown v0 σ) (q_G (q_rf fo) d m_Mo_thrown o σ' 0 [some (.ref v0)] [] σ) := by
  unfold f_Mo_thrown
  refine J_bind fun x1 hx1 => ?_
  exact J_some (fun h => j_aload_n rfl rfl (j_gfi rfl hx1 (j_iret rfl rfl h)))
theorem t_Mo_thrown {fo : Option Nat} {d : Nat} (hd : 1 ≤ d) {v0 : Nat} {σ σ1 : q_H} {r : Int32} (h : f_Mo_thrown v0 σ = some (r, σ1)) : q_Rel (q_rf fo) q_Ms d 170 [.ref v0] σ (.inl (some (.int r))) σ1 := by
  obtain ⟨d, rfl⟩ : ∃ d1, d = d1 + 1 := ⟨d - 1, by omega⟩
  exact q_Rel.of rfl rfl (b_Mo_thrown hd _ σ _ _ h ⟨rfl, rfl⟩)

set_option maxRecDepth 100000 in
theorem b_Mo_within {fo : Option Nat} {d : Nat} (hd : 1 ≤ d + 1) {o : q_O} {σ' : q_H} (v0 : Int32) (v1 : Int32) (v2 : Int32) (σ : q_H) : q_J (fun (r : Int32) (σ1 : q_H) => o = .inl (some (.int r)) ∧ σ' = σ1) (f_Mo_within v0 v1 v2 σ) (q_G (q_rf fo) d m_Mo_within o σ' 0 [some (.int v0), some (.int v1), some (.int v2)] [] σ) := by
  unfold f_Mo_within
  refine q_J.step (fun g => j_iload_n rfl rfl (j_iload_n rfl rfl (g))) ?_
  refine J_ite (fun h1 => ?_) (fun h1 => ?_)
  · exact J_some (fun h => j_icmp_t rfl (cc_lt_t h1) (j_iconst (0 : Int32) rfl k32_0 (j_iret rfl (q_zr (Or.inl rfl)) h)))
  refine q_J.step (fun g => j_icmp_f rfl (cc_lt_f h1) (j_iload_n rfl rfl (j_iload_n rfl rfl (g)))) ?_
  refine J_ite (fun h2 => ?_) (fun h2 => ?_)
  · exact J_some (fun h => j_icmp_t rfl (cc_gt_t h2) (j_iconst (0 : Int32) rfl k32_0 (j_iret rfl (q_zr (Or.inl rfl)) h)))
  exact J_some (fun h => j_icmp_f rfl (cc_gt_f h2) (j_iconst (1 : Int32) rfl k32_1 (j_goto rfl (j_iret rfl (q_zr (Or.inr rfl)) h))))
theorem t_Mo_within {fo : Option Nat} {d : Nat} (hd : 1 ≤ d) {v0 : Int32} {v1 : Int32} {v2 : Int32} {σ σ1 : q_H} {r : Int32} (h : f_Mo_within v0 v1 v2 σ = some (r, σ1)) : q_Rel (q_rf fo) q_Ms d 172 [.int v0, .int v1, .int v2] σ (.inl (some (.int r))) σ1 := by
  obtain ⟨d, rfl⟩ : ∃ d1, d = d1 + 1 := ⟨d - 1, by omega⟩
  exact q_Rel.of rfl rfl (b_Mo_within hd _ _ _ σ _ _ h ⟨rfl, rfl⟩)

set_option maxRecDepth 100000 in
theorem b_Mo_wide {fo : Option Nat} {d : Nat} (hd : 1 ≤ d + 1) {o : q_O} {σ' : q_H} (v0 : Int32) (σ : q_H) : q_J (fun (r : Int32) (σ1 : q_H) => o = .inl (some (.int r)) ∧ σ' = σ1) (f_Mo_wide v0 σ) (q_G (q_rf fo) d m_Mo_wide o σ' 0 [some (.int v0)] [] σ) := by
  unfold f_Mo_wide
  refine q_J.step (fun g => j_iload_n rfl rfl (j_bipush (10 : Int32) rfl kb_10 (g))) ?_
  refine J_ite (fun h1 => ?_) (fun h1 => ?_)
  · exact J_some (fun h => j_icmp_t rfl (cc_lt_t h1) (j_iconst (0 : Int32) rfl k32_0 (j_iret rfl rfl h)))
  refine q_J.step (fun g => j_icmp_f rfl (cc_lt_f h1) (j_iload_n rfl rfl (j_iconst (5 : Int32) rfl k32_5 (j_irem rfl (by decide) (g))))) ?_
  refine J_ite (fun h2 => ?_) (fun h2 => ?_)
  · exact J_some (fun h => j_if_f rfl (cc_ne_f h2) (j_iconst (4 : Int32) rfl k32_4 (j_goto rfl (j_iret rfl rfl h))))
  exact J_some (fun h => j_if_t rfl (cc_ne_t h2) (j_iconst (0 : Int32) rfl k32_0 (j_iret rfl rfl h)))
theorem t_Mo_wide {fo : Option Nat} {d : Nat} (hd : 1 ≤ d) {v0 : Int32} {σ σ1 : q_H} {r : Int32} (h : f_Mo_wide v0 σ = some (r, σ1)) : q_Rel (q_rf fo) q_Ms d 181 [.int v0] σ (.inl (some (.int r))) σ1 := by
  obtain ⟨d, rfl⟩ : ∃ d1, d = d1 + 1 := ⟨d - 1, by omega⟩
  exact q_Rel.of rfl rfl (b_Mo_wide hd _ σ _ _ h ⟨rfl, rfl⟩)

set_option maxRecDepth 100000 in
theorem l_Mo_feed_L8 {fo : Option Nat} {d : Nat} (hd : 1 ≤ d + 1) {o : q_O} {σ' : q_H} {E : (Unit) → q_H → Prop} (v0 : Nat) (v1 : Int64) (v3 : Int64) (v5 : Int64) (hX : ∀ (t : Unit) σ1, E (t) σ1 → q_G (q_rf fo) d m_Mo_feed o σ' 120 [some (.ref v0), none, none, none, none, none, none, none, none, none, none] [] σ1)  : ∀ (n : Nat) (v7 : Int32) (σ : q_H), q_J E (f_Mo_feed_L8 v0 v1 v3 v5 n v7 σ) (q_G (q_rf fo) d m_Mo_feed o σ' 8 [some (.ref v0), some (.long v1), none, some (.long v3), none, some (.long v5), none, some (.int v7), none, none, none] [] σ)
  | 0, v7, σ => J_none
  | n + 1, v7, σ => by
    unfold f_Mo_feed_L8
    refine q_J.step (fun g => j_iload rfl rfl (j_bipush (24 : Int32) rfl kb_24 (g))) ?_
    refine J_ite (fun h1 => ?_) (fun h1 => ?_)
    · refine q_J.step (fun g => j_icmp_f rfl (cc_ge_f h1) (j_iload rfl rfl (j_bipush (8 : Int32) rfl kb_8 (g)))) ?_
      refine J_sq (fun (t4 : Int64) (σ5 : q_H) => q_G (q_rf fo) d m_Mo_feed o σ' 39 [some (.ref v0), some (.long v1), none, some (.long v3), none, some (.long v5), none, some (.int v7), none, none, none] [.long t4] σ5) ?_ (fun t4 σ5 => ?_)
      · refine J_ite (fun h2 => ?_) (fun h2 => ?_)
        · exact J_some (fun h => j_icmp_f rfl (cc_ge_f h2) (j_lload_n rfl rfl (j_goto rfl (h))))
        refine q_J.step (fun g => j_icmp_t rfl (cc_ge_t h2) (j_iload rfl rfl (j_bipush (16 : Int32) rfl kb_16 (g)))) ?_
        refine J_ite (fun h3 => ?_) (fun h3 => ?_)
        · exact J_some (fun h => j_icmp_f rfl (cc_ge_f h3) (j_lload_n rfl rfl (j_goto rfl (h))))
        exact J_some (fun h => j_icmp_t rfl (cc_ge_t h3) (j_lload rfl rfl (h)))
      refine J_bind fun x6 hx6 => ?_
      refine q_J.step (fun g => j_lstore [some (.ref v0), some (.long v1), none, some (.long v3), none, some (.long v5), none, some (.int v7), some (.long t4), none, none] rfl rfl (Or.inr rfl) rfl (j_lload rfl rfl (j_bipush (56 : Int32) rfl kb_56 (j_bipush (8 : Int32) rfl kb_8 (j_iload rfl rfl (j_bipush (7 : Int32) rfl kb_7 (j_iand rfl (j_imul rfl (j_isub rfl (j_lushr rfl (j_ldc2 (255 : Int64) rfl kw_255 (j_land rfl (j_l2i rfl (j_istore [some (.ref v0), some (.long v1), none, some (.long v3), none, some (.long v5), none, some (.int v7), some (.long t4), none, some (.int ((((t4.toUInt64 >>> (((56 : Int32) - ((8 : Int32) * (v7 &&& (7 : Int32)))).toInt64.toUInt64 &&& Int64.toUInt64 63)).toInt64) &&& (255 : Int64)).toInt32))] rfl rfl (Or.inr True.intro) rfl (g))))))))))))))) ?_
      refine q_J.step (fun g => j_aload_n rfl rfl (j_gfi rfl hx6 (j_sipush (1000 : Int32) rfl ks_1000 (g)))) ?_
      refine J_ite (fun h7 => ?_) (fun h7 => ?_)
      · refine q_J.step (fun g => j_icmp_f rfl (cc_ge_f h7) (j_iload rfl rfl (j_bipush (10 : Int32) rfl kb_10 (g)))) ?_
        refine J_ite (fun h8 => ?_) (fun h8 => ?_)
        · refine J_bind fun x9 hx9 => ?_
          refine J_bind fun x10 hx10 => ?_
          refine J_bind fun σ11 hσ11 => ?_
          refine J_bind fun x12 hx12 => ?_
          refine J_bind fun σ13 hσ13 => ?_
          exact q_J.step (fun g => j_icmp_t rfl (cc_eq_t h8) (j_aload_n rfl rfl (j_gfr rfl hx9 (j_aload_n rfl rfl (j_gfi rfl hx10 (j_iload rfl rfl (j_ias rfl hσ11 (j_aload_n rfl rfl (j_dup rfl rfl (j_gfi rfl hx12 (j_iconst (1 : Int32) rfl k32_1 (j_iadd rfl (j_putf rfl rfl rfl rfl hσ13 (j_iinc [some (.ref v0), some (.long v1), none, some (.long v3), none, some (.long v5), none, some (.int (v7 + (1 : Int32))), some (.long t4), none, some (.int ((((t4.toUInt64 >>> (((56 : Int32) - ((8 : Int32) * (v7 &&& (7 : Int32)))).toInt64.toUInt64 &&& Int64.toUInt64 63)).toInt64) &&& (255 : Int64)).toInt32))] (v7 + (1 : Int32)) rfl rfl (by rw [k32_1]) (Or.inr True.intro) rfl (j_goto rfl (j_weak (l := [some (.ref v0), some (.long v1), none, some (.long v3), none, some (.long v5), none, some (.int (v7 + (1 : Int32))), none, none, none]) (And.intro (Or.inr rfl) (And.intro (Or.inr rfl) (And.intro (Or.inr rfl) (And.intro (Or.inr rfl) (And.intro (Or.inr rfl) (And.intro (Or.inr rfl) (And.intro (Or.inr rfl) (And.intro (Or.inr rfl) (And.intro (Or.inl rfl) (And.intro (Or.inr rfl) (And.intro (Or.inl rfl) True.intro))))))))))) (g))))))))))))))))) (l_Mo_feed_L8 hd v0 v1 v3 v5 hX n (v7 + (1 : Int32)) σ13)
        refine q_J.step (fun g => j_icmp_f rfl (cc_eq_f h8) (j_iload rfl rfl (j_bipush (32 : Int32) rfl kb_32 (g)))) ?_
        refine J_ite (fun h14 => ?_) (fun h14 => ?_)
        · exact q_J.step (fun g => j_icmp_t rfl (cc_lt_t h14) (j_iinc [some (.ref v0), some (.long v1), none, some (.long v3), none, some (.long v5), none, some (.int (v7 + (1 : Int32))), some (.long t4), none, some (.int ((((t4.toUInt64 >>> (((56 : Int32) - ((8 : Int32) * (v7 &&& (7 : Int32)))).toInt64.toUInt64 &&& Int64.toUInt64 63)).toInt64) &&& (255 : Int64)).toInt32))] (v7 + (1 : Int32)) rfl rfl (by rw [k32_1]) (Or.inr True.intro) rfl (j_goto rfl (j_weak (l := [some (.ref v0), some (.long v1), none, some (.long v3), none, some (.long v5), none, some (.int (v7 + (1 : Int32))), none, none, none]) (And.intro (Or.inr rfl) (And.intro (Or.inr rfl) (And.intro (Or.inr rfl) (And.intro (Or.inr rfl) (And.intro (Or.inr rfl) (And.intro (Or.inr rfl) (And.intro (Or.inr rfl) (And.intro (Or.inr rfl) (And.intro (Or.inl rfl) (And.intro (Or.inr rfl) (And.intro (Or.inl rfl) True.intro))))))))))) (g))))) (l_Mo_feed_L8 hd v0 v1 v3 v5 hX n (v7 + (1 : Int32)) σ5)
        refine q_J.step (fun g => j_icmp_f rfl (cc_lt_f h14) (j_iload rfl rfl (j_bipush (126 : Int32) rfl kb_126 (g)))) ?_
        refine J_ite (fun h15 => ?_) (fun h15 => ?_)
        · exact q_J.step (fun g => j_icmp_t rfl (cc_gt_t h15) (j_iinc [some (.ref v0), some (.long v1), none, some (.long v3), none, some (.long v5), none, some (.int (v7 + (1 : Int32))), some (.long t4), none, some (.int ((((t4.toUInt64 >>> (((56 : Int32) - ((8 : Int32) * (v7 &&& (7 : Int32)))).toInt64.toUInt64 &&& Int64.toUInt64 63)).toInt64) &&& (255 : Int64)).toInt32))] (v7 + (1 : Int32)) rfl rfl (by rw [k32_1]) (Or.inr True.intro) rfl (j_goto rfl (j_weak (l := [some (.ref v0), some (.long v1), none, some (.long v3), none, some (.long v5), none, some (.int (v7 + (1 : Int32))), none, none, none]) (And.intro (Or.inr rfl) (And.intro (Or.inr rfl) (And.intro (Or.inr rfl) (And.intro (Or.inr rfl) (And.intro (Or.inr rfl) (And.intro (Or.inr rfl) (And.intro (Or.inr rfl) (And.intro (Or.inr rfl) (And.intro (Or.inl rfl) (And.intro (Or.inr rfl) (And.intro (Or.inl rfl) True.intro))))))))))) (g))))) (l_Mo_feed_L8 hd v0 v1 v3 v5 hX n (v7 + (1 : Int32)) σ5)
        refine J_bind fun x16 hx16 => ?_
        refine J_bind fun x17 hx17 => ?_
        refine J_bind fun σ18 hσ18 => ?_
        refine J_bind fun x19 hx19 => ?_
        refine J_bind fun σ20 hσ20 => ?_
        exact q_J.step (fun g => j_icmp_f rfl (cc_gt_f h15) (j_aload_n rfl rfl (j_gfr rfl hx16 (j_aload_n rfl rfl (j_gfi rfl hx17 (j_iload rfl rfl (j_ias rfl hσ18 (j_aload_n rfl rfl (j_dup rfl rfl (j_gfi rfl hx19 (j_iconst (1 : Int32) rfl k32_1 (j_iadd rfl (j_putf rfl rfl rfl rfl hσ20 (j_iinc [some (.ref v0), some (.long v1), none, some (.long v3), none, some (.long v5), none, some (.int (v7 + (1 : Int32))), some (.long t4), none, some (.int ((((t4.toUInt64 >>> (((56 : Int32) - ((8 : Int32) * (v7 &&& (7 : Int32)))).toInt64.toUInt64 &&& Int64.toUInt64 63)).toInt64) &&& (255 : Int64)).toInt32))] (v7 + (1 : Int32)) rfl rfl (by rw [k32_1]) (Or.inr True.intro) rfl (j_goto rfl (j_weak (l := [some (.ref v0), some (.long v1), none, some (.long v3), none, some (.long v5), none, some (.int (v7 + (1 : Int32))), none, none, none]) (And.intro (Or.inr rfl) (And.intro (Or.inr rfl) (And.intro (Or.inr rfl) (And.intro (Or.inr rfl) (And.intro (Or.inr rfl) (And.intro (Or.inr rfl) (And.intro (Or.inr rfl) (And.intro (Or.inr rfl) (And.intro (Or.inl rfl) (And.intro (Or.inr rfl) (And.intro (Or.inl rfl) True.intro))))))))))) (g))))))))))))))))) (l_Mo_feed_L8 hd v0 v1 v3 v5 hX n (v7 + (1 : Int32)) σ20)
      exact q_J.step (fun g => j_icmp_t rfl (cc_ge_t h7) (j_iinc [some (.ref v0), some (.long v1), none, some (.long v3), none, some (.long v5), none, some (.int (v7 + (1 : Int32))), some (.long t4), none, some (.int ((((t4.toUInt64 >>> (((56 : Int32) - ((8 : Int32) * (v7 &&& (7 : Int32)))).toInt64.toUInt64 &&& Int64.toUInt64 63)).toInt64) &&& (255 : Int64)).toInt32))] (v7 + (1 : Int32)) rfl rfl (by rw [k32_1]) (Or.inr True.intro) rfl (j_goto rfl (j_weak (l := [some (.ref v0), some (.long v1), none, some (.long v3), none, some (.long v5), none, some (.int (v7 + (1 : Int32))), none, none, none]) (And.intro (Or.inr rfl) (And.intro (Or.inr rfl) (And.intro (Or.inr rfl) (And.intro (Or.inr rfl) (And.intro (Or.inr rfl) (And.intro (Or.inr rfl) (And.intro (Or.inr rfl) (And.intro (Or.inr rfl) (And.intro (Or.inl rfl) (And.intro (Or.inr rfl) (And.intro (Or.inl rfl) True.intro))))))))))) (g))))) (l_Mo_feed_L8 hd v0 v1 v3 v5 hX n (v7 + (1 : Int32)) σ5)
    exact J_some (fun h => j_icmp_t rfl (cc_ge_t h1) (j_weak (l := [some (.ref v0), none, none, none, none, none, none, none, none, none, none]) (And.intro (Or.inr rfl) (And.intro (Or.inl rfl) (And.intro (Or.inr rfl) (And.intro (Or.inl rfl) (And.intro (Or.inr rfl) (And.intro (Or.inl rfl) (And.intro (Or.inr rfl) (And.intro (Or.inl rfl) (And.intro (Or.inr rfl) (And.intro (Or.inr rfl) (And.intro (Or.inr rfl) True.intro))))))))))) (hX _ _ h)))

set_option maxRecDepth 100000 in
theorem b_Mo_feed {fo : Option Nat} {d : Nat} (hd : 1 ≤ d + 1) {o : q_O} {σ' : q_H} (v0 : Nat) (v1 : Int64) (v3 : Int64) (v5 : Int64) (σ : q_H) : q_J (fun (r : Int32) (σ1 : q_H) => o = .inl (some (.int r)) ∧ σ' = σ1) (f_Mo_feed v0 v1 v3 v5 σ) (q_G (q_rf fo) d m_Mo_feed o σ' 0 [some (.ref v0), some (.long v1), none, some (.long v3), none, some (.long v5), none, none, none, none, none] [] σ) := by
  unfold f_Mo_feed
  refine J_bind fun σ1 hσ1 => ?_
  refine J_sq (fun (t2 : Unit) (σ3 : q_H) => q_G (q_rf fo) d m_Mo_feed o σ' 120 [some (.ref v0), none, none, none, none, none, none, none, none, none, none] [] σ3) (q_J.step (fun g => j_aload_n rfl rfl (j_iconst (0 : Int32) rfl k32_0 (j_putf rfl rfl rfl rfl hσ1 (j_iconst (0 : Int32) rfl k32_0 (j_istore [some (.ref v0), some (.long v1), none, some (.long v3), none, some (.long v5), none, some (.int (0 : Int32)), none, none, none] rfl rfl (Or.inr True.intro) rfl (g)))))) (l_Mo_feed_L8 hd v0 v1 v3 v5 (fun _ _ h => h) q_FU (0 : Int32) σ1)) (fun t2 σ3 => ?_)
  refine J_bind fun x4 hx4 => ?_
  exact J_some (fun h => j_aload_n rfl rfl (j_gfi rfl hx4 (j_iret rfl rfl h)))
theorem t_Mo_feed {fo : Option Nat} {d : Nat} (hd : 1 ≤ d) {v0 : Nat} {v1 : Int64} {v3 : Int64} {v5 : Int64} {σ σ1 : q_H} {r : Int32} (h : f_Mo_feed v0 v1 v3 v5 σ = some (r, σ1)) : q_Rel (q_rf fo) q_Ms d 182 [.ref v0, .long v1, .long v3, .long v5] σ (.inl (some (.int r))) σ1 := by
  obtain ⟨d, rfl⟩ : ∃ d1, d = d1 + 1 := ⟨d - 1, by omega⟩
  exact q_Rel.of rfl rfl (b_Mo_feed hd _ _ _ _ σ _ _ h ⟨rfl, rfl⟩)

set_option maxRecDepth 100000 in
theorem b_Mo_signAt {fo : Option Nat} {d : Nat} (hd : 1 ≤ d + 1) {o : q_O} {σ' : q_H} (v0 : Nat) (v1 : Int32) (σ : q_H) : q_J (fun (r : Int32) (σ1 : q_H) => o = .inl (some (.int r)) ∧ σ' = σ1) (f_Mo_signAt v0 v1 σ) (q_G (q_rf fo) d m_Mo_signAt o σ' 0 [some (.ref v0), some (.int v1)] [] σ) := by
  unfold f_Mo_signAt
  refine J_bind fun x1 hx1 => ?_
  refine q_J.step (fun g => j_iload_n rfl rfl (j_aload_n rfl rfl (j_gfi rfl hx1 (g)))) ?_
  refine J_ite (fun h2 => ?_) (fun h2 => ?_)
  · refine J_bind fun x3 hx3 => ?_
    refine J_bind fun x4 hx4 => ?_
    exact J_some (fun h => j_icmp_f rfl (cc_ge_f h2) (j_aload_n rfl rfl (j_gfr rfl hx3 (j_iload_n rfl rfl (j_ial rfl hx4 (j_goto rfl (j_iret rfl rfl h)))))))
  exact J_some (fun h => j_icmp_t rfl (cc_ge_t h2) (j_iconst (0 : Int32) rfl k32_0 (j_iret rfl rfl h)))
theorem t_Mo_signAt {fo : Option Nat} {d : Nat} (hd : 1 ≤ d) {v0 : Nat} {v1 : Int32} {σ σ1 : q_H} {r : Int32} (h : f_Mo_signAt v0 v1 σ = some (r, σ1)) : q_Rel (q_rf fo) q_Ms d 186 [.ref v0, .int v1] σ (.inl (some (.int r))) σ1 := by
  obtain ⟨d, rfl⟩ : ∃ d1, d = d1 + 1 := ⟨d - 1, by omega⟩
  exact q_Rel.of rfl rfl (b_Mo_signAt hd _ _ σ _ _ h ⟨rfl, rfl⟩)

set_option maxRecDepth 100000 in
theorem b_Mo_isWord {fo : Option Nat} {d : Nat} (hd : 1 ≤ d + 1) {o : q_O} {σ' : q_H} (v0 : Nat) (v1 : Int64) (σ : q_H) : q_J (fun (r : Int32) (σ1 : q_H) => o = .inl (some (.int r)) ∧ σ' = σ1) (f_Mo_isWord v0 v1 σ) (q_G (q_rf fo) d m_Mo_isWord o σ' 0 [some (.ref v0), some (.long v1), none] [] σ) := by
  unfold f_Mo_isWord
  refine J_bind fun x1 hx1 => ?_
  refine q_J.step (fun g => j_aload_n rfl rfl (j_gfi rfl hx1 (j_iconst (1 : Int32) rfl k32_1 (g)))) ?_
  refine J_ite (fun h2 => ?_) (fun h2 => ?_)
  · refine J_bind fun x3 hx3 => ?_
    refine q_J.step (fun g => j_icmp_f rfl (cc_ne_f h2) (j_aload_n rfl rfl (j_gfl rfl hx3 (j_lload_n rfl rfl (j_lcmp rfl (g)))))) ?_
    refine J_ite (fun h4 => ?_) (fun h4 => ?_)
    · exact J_some (fun h => j_if_f rfl (lc_ne_f h4) (j_iconst (1 : Int32) rfl k32_1 (j_goto rfl (j_iret rfl (q_zr (Or.inr rfl)) h))))
    exact J_some (fun h => j_if_t rfl (lc_ne_t h4) (j_iconst (0 : Int32) rfl k32_0 (j_iret rfl (q_zr (Or.inl rfl)) h)))
  exact J_some (fun h => j_icmp_t rfl (cc_ne_t h2) (j_iconst (0 : Int32) rfl k32_0 (j_iret rfl (q_zr (Or.inl rfl)) h)))
theorem t_Mo_isWord {fo : Option Nat} {d : Nat} (hd : 1 ≤ d) {v0 : Nat} {v1 : Int64} {σ σ1 : q_H} {r : Int32} (h : f_Mo_isWord v0 v1 σ = some (r, σ1)) : q_Rel (q_rf fo) q_Ms d 187 [.ref v0, .long v1] σ (.inl (some (.int r))) σ1 := by
  obtain ⟨d, rfl⟩ : ∃ d1, d = d1 + 1 := ⟨d - 1, by omega⟩
  exact q_Rel.of rfl rfl (b_Mo_isWord hd _ _ σ _ _ h ⟨rfl, rfl⟩)

set_option maxRecDepth 100000 in
theorem b_Mo_errs {fo : Option Nat} {d : Nat} (hd : 1 ≤ d + 1) {o : q_O} {σ' : q_H} (v0 : Nat) (v1 : Int32) (σ : q_H) : q_J (fun (r : Int32) (σ1 : q_H) => o = .inl (some (.int r)) ∧ σ' = σ1) (f_Mo_errs v0 v1 σ) (q_G (q_rf fo) d m_Mo_errs o σ' 0 [some (.ref v0), some (.int v1)] [] σ) := by
  unfold f_Mo_errs
  refine J_bind fun x1 hx1 => ?_
  refine J_bind fun σ2 hσ2 => ?_
  exact J_some (fun h => j_aload_n rfl rfl (j_iload_n rfl rfl (j_bipush (16 : Int32) rfl kb_16 (j_aload_n rfl rfl (j_gfi rfl hx1 (j_imul rfl (j_iadd rfl (j_putf rfl rfl rfl rfl hσ2 (j_iconst (0 : Int32) rfl k32_0 (j_iret rfl (q_zr (Or.inl rfl)) h))))))))))
theorem t_Mo_errs {fo : Option Nat} {d : Nat} (hd : 1 ≤ d) {v0 : Nat} {v1 : Int32} {σ σ1 : q_H} {r : Int32} (h : f_Mo_errs v0 v1 σ = some (r, σ1)) : q_Rel (q_rf fo) q_Ms d 188 [.ref v0, .int v1] σ (.inl (some (.int r))) σ1 := by
  obtain ⟨d, rfl⟩ : ∃ d1, d = d1 + 1 := ⟨d - 1, by omega⟩
  exact q_Rel.of rfl rfl (b_Mo_errs hd _ _ σ _ _ h ⟨rfl, rfl⟩)

set_option maxRecDepth 100000 in
theorem b_Mo_tag {fo : Option Nat} {d : Nat} (hd : 1 ≤ d + 1) {o : q_O} {σ' : q_H} (v0 : Nat) (σ : q_H) : q_J (fun (r : Int32) (σ1 : q_H) => o = .inl (some (.int r)) ∧ σ' = σ1) (f_Mo_tag v0 σ) (q_G (q_rf fo) d m_Mo_tag o σ' 0 [some (.ref v0)] [] σ) := by
  unfold f_Mo_tag
  refine J_bind fun x1 hx1 => ?_
  refine q_J.step (fun g => j_aload_n rfl rfl (j_gfi rfl hx1 (j_iconst (1 : Int32) rfl k32_1 (g)))) ?_
  refine J_ite (fun h2 => ?_) (fun h2 => ?_)
  · refine J_bind fun x3 hx3 => ?_
    refine q_J.step (fun g => j_icmp_t rfl (cc_eq_t h2) (j_aload_n rfl rfl (j_gfl rfl hx3 (j_ldc2 (87024528 : Int64) rfl kw_87024528 (j_lcmp rfl (g)))))) ?_
    refine J_ite (fun h4 => ?_) (fun h4 => ?_)
    · exact J_some (fun h => j_if_f rfl (lc_ne_f h4) (j_iconst (1 : Int32) rfl k32_1 (j_iret rfl rfl h)))
    refine J_bind fun x5 hx5 => ?_
    refine q_J.step (fun g => j_if_t rfl (lc_ne_t h4) (j_aload_n rfl rfl (j_gfl rfl hx5 (j_ldc2 (194907051 : Int64) rfl kw_194907051 (j_lcmp rfl (g)))))) ?_
    refine J_ite (fun h6 => ?_) (fun h6 => ?_)
    · exact J_some (fun h => j_if_f rfl (lc_ne_f h6) (j_iconst (2 : Int32) rfl k32_2 (j_iret rfl rfl h)))
    refine J_bind fun x7 hx7 => ?_
    refine q_J.step (fun g => j_if_t rfl (lc_ne_t h6) (j_aload_n rfl rfl (j_gfl rfl hx7 (j_ldc2 (459437 : Int64) rfl kw_459437 (j_lcmp rfl (g)))))) ?_
    refine J_ite (fun h8 => ?_) (fun h8 => ?_)
    · exact J_some (fun h => j_if_f rfl (lc_ne_f h8) (j_iconst (3 : Int32) rfl k32_3 (j_iret rfl rfl h)))
    refine J_bind fun x9 hx9 => ?_
    refine q_J.step (fun g => j_if_t rfl (lc_ne_t h8) (j_aload_n rfl rfl (j_gfl rfl hx9 (j_ldc2 (277800912 : Int64) rfl kw_277800912 (j_lcmp rfl (g)))))) ?_
    refine J_ite (fun h10 => ?_) (fun h10 => ?_)
    · exact J_some (fun h => j_if_f rfl (lc_ne_f h10) (j_iconst (4 : Int32) rfl k32_4 (j_iret rfl rfl h)))
    refine J_bind fun x11 hx11 => ?_
    refine q_J.step (fun g => j_if_t rfl (lc_ne_t h10) (j_aload_n rfl rfl (j_gfl rfl hx11 (j_ldc2 (38567165 : Int64) rfl kw_38567165 (j_lcmp rfl (g)))))) ?_
    refine J_ite (fun h12 => ?_) (fun h12 => ?_)
    · exact J_some (fun h => j_if_f rfl (lc_ne_f h12) (j_iconst (5 : Int32) rfl k32_5 (j_iret rfl rfl h)))
    refine J_bind fun x13 hx13 => ?_
    refine q_J.step (fun g => j_if_t rfl (lc_ne_t h12) (j_aload_n rfl rfl (j_gfl rfl hx13 (j_ldc2 (10656671 : Int64) rfl kw_10656671 (j_lcmp rfl (g)))))) ?_
    refine J_ite (fun h14 => ?_) (fun h14 => ?_)
    · exact J_some (fun h => j_if_f rfl (lc_ne_f h14) (j_bipush (6 : Int32) rfl kb_6 (j_iret rfl rfl h)))
    refine J_bind fun x15 hx15 => ?_
    refine q_J.step (fun g => j_if_t rfl (lc_ne_t h14) (j_aload_n rfl rfl (j_gfl rfl hx15 (j_ldc2 (10334903 : Int64) rfl kw_10334903 (j_lcmp rfl (g)))))) ?_
    refine J_ite (fun h16 => ?_) (fun h16 => ?_)
    · exact J_some (fun h => j_if_f rfl (lc_ne_f h16) (j_bipush (7 : Int32) rfl kb_7 (j_iret rfl rfl h)))
    refine J_bind fun x17 hx17 => ?_
    refine q_J.step (fun g => j_if_t rfl (lc_ne_t h16) (j_aload_n rfl rfl (j_gfl rfl hx17 (j_ldc2 (180242487 : Int64) rfl kw_180242487 (j_lcmp rfl (g)))))) ?_
    refine J_ite (fun h18 => ?_) (fun h18 => ?_)
    · exact J_some (fun h => j_if_f rfl (lc_ne_f h18) (j_bipush (8 : Int32) rfl kb_8 (j_iret rfl rfl h)))
    exact J_some (fun h => j_if_t rfl (lc_ne_t h18) (j_iconst (0 : Int32) rfl k32_0 (j_iret rfl rfl h)))
  exact J_some (fun h => j_icmp_f rfl (cc_eq_f h2) (j_iconst (0 : Int32) rfl k32_0 (j_iret rfl rfl h)))
theorem t_Mo_tag {fo : Option Nat} {d : Nat} (hd : 1 ≤ d) {v0 : Nat} {σ σ1 : q_H} {r : Int32} (h : f_Mo_tag v0 σ = some (r, σ1)) : q_Rel (q_rf fo) q_Ms d 191 [.ref v0] σ (.inl (some (.int r))) σ1 := by
  obtain ⟨d, rfl⟩ : ∃ d1, d = d1 + 1 := ⟨d - 1, by omega⟩
  exact q_Rel.of rfl rfl (b_Mo_tag hd _ σ _ _ h ⟨rfl, rfl⟩)

set_option maxRecDepth 100000 in
theorem l_Mo_lineOf_L4 {fo : Option Nat} {d : Nat} (hd : 1 ≤ d + 1) {o : q_O} {σ' : q_H} {E : (Int32 ⊕ Unit) → q_H → Prop} (v0 : Nat) (v1 : Int64) (hR : ∀ r σ1, E (.inl r) σ1 → o = .inl (some (.int r)) ∧ σ' = σ1) (hX : ∀ (t : Unit) σ1, E (.inr t) σ1 → q_G (q_rf fo) d m_Mo_lineOf o σ' 42 [none, none, none, none] [] σ1)  : ∀ (n : Nat) (v3 : Int32) (σ : q_H), q_J E (f_Mo_lineOf_L4 v0 v1 n v3 σ) (q_G (q_rf fo) d m_Mo_lineOf o σ' 4 [some (.ref v0), some (.long v1), none, some (.int v3)] [] σ)
  | 0, v3, σ => J_none
  | n + 1, v3, σ => by
    unfold f_Mo_lineOf_L4
    refine J_bind fun x1 hx1 => ?_
    refine J_bind fun x2 hx2 => ?_
    refine q_J.step (fun g => j_iload_n rfl rfl (j_sipush (288 : Int32) rfl ks_288 (j_aload_n rfl rfl (j_gfr rfl hx1 (j_bipush (24 : Int32) rfl kb_24 (j_ial rfl hx2 (j_iadd rfl (g)))))))) ?_
    refine J_ite (fun h3 => ?_) (fun h3 => ?_)
    · refine J_bind fun x4 hx4 => ?_
      refine J_bind fun x5 hx5 => ?_
      refine q_J.step (fun g => j_icmp_f rfl (cc_ge_f h3) (j_aload_n rfl rfl (j_gfr rfl hx4 (j_iload_n rfl rfl (j_lal rfl hx5 (j_lload_n rfl rfl (j_lcmp rfl (g)))))))) ?_
      refine J_ite (fun h6 => ?_) (fun h6 => ?_)
      · exact J_some (fun h => j_if_f rfl (lc_ne_f h6) (j_iload_n rfl rfl (j_sipush (288 : Int32) rfl ks_288 (j_isub rfl (j_iret rfl rfl (hR _ _ h))))))
      exact q_J.step (fun g => j_if_t rfl (lc_ne_t h6) (j_iinc [some (.ref v0), some (.long v1), none, some (.int (v3 + (1 : Int32)))] (v3 + (1 : Int32)) rfl rfl (by rw [k32_1]) (Or.inr True.intro) rfl (j_goto rfl (g)))) (l_Mo_lineOf_L4 hd v0 v1 hR hX n (v3 + (1 : Int32)) σ)
    exact J_some (fun h => j_icmp_t rfl (cc_ge_t h3) (j_weak (l := [none, none, none, none]) (And.intro (Or.inl rfl) (And.intro (Or.inl rfl) (And.intro (Or.inr rfl) (And.intro (Or.inl rfl) True.intro)))) (hX _ _ h)))

set_option maxRecDepth 100000 in
theorem b_Mo_lineOf {fo : Option Nat} {d : Nat} (hd : 1 ≤ d + 1) {o : q_O} {σ' : q_H} (v0 : Nat) (v1 : Int64) (σ : q_H) : q_J (fun (r : Int32) (σ1 : q_H) => o = .inl (some (.int r)) ∧ σ' = σ1) (f_Mo_lineOf v0 v1 σ) (q_G (q_rf fo) d m_Mo_lineOf o σ' 0 [some (.ref v0), some (.long v1), none, none] [] σ) := by
  unfold f_Mo_lineOf
  refine J_sq (fun (t0 : Int32 ⊕ Unit) (σ2 : q_H) => match t0 with | .inl r => o = .inl (some (.int r)) ∧ σ' = σ2 | .inr t1 => q_G (q_rf fo) d m_Mo_lineOf o σ' 42 [none, none, none, none] [] σ2) (q_J.step (fun g => j_sipush (288 : Int32) rfl ks_288 (j_istore_n [some (.ref v0), some (.long v1), none, some (.int (288 : Int32))] rfl rfl (Or.inr True.intro) rfl (g))) (l_Mo_lineOf_L4 hd v0 v1 (fun _ _ h => h) (fun _ _ h => h) q_FU (288 : Int32) σ)) (fun t0 σ2 => ?_)
  cases t0 with
  | inl r3 => exact J_some (fun h => h)
  | inr t1 =>
    exact J_some (fun h => j_iconst (-1 : Int32) rfl k32_m1 (j_iret rfl rfl h))
theorem t_Mo_lineOf {fo : Option Nat} {d : Nat} (hd : 1 ≤ d) {v0 : Nat} {v1 : Int64} {σ σ1 : q_H} {r : Int32} (h : f_Mo_lineOf v0 v1 σ = some (r, σ1)) : q_Rel (q_rf fo) q_Ms d 192 [.ref v0, .long v1] σ (.inl (some (.int r))) σ1 := by
  obtain ⟨d, rfl⟩ : ∃ d1, d = d1 + 1 := ⟨d - 1, by omega⟩
  exact q_Rel.of rfl rfl (b_Mo_lineOf hd _ _ σ _ _ h ⟨rfl, rfl⟩)

set_option maxRecDepth 100000 in
theorem b_Mo_isSign {fo : Option Nat} {d : Nat} (hd : 1 ≤ d + 1) {o : q_O} {σ' : q_H} (v0 : Nat) (v1 : Int32) (σ : q_H) : q_J (fun (r : Int32) (σ1 : q_H) => o = .inl (some (.int r)) ∧ σ' = σ1) (f_Mo_isSign v0 v1 σ) (q_G (q_rf fo) d m_Mo_isSign o σ' 0 [some (.ref v0), some (.int v1)] [] σ) := by
  unfold f_Mo_isSign
  refine J_bind fun x1 hx1 => ?_
  refine q_J.step (fun g => j_aload_n rfl rfl (j_gfi rfl hx1 (j_iconst (3 : Int32) rfl k32_3 (g)))) ?_
  refine J_ite (fun h2 => ?_) (fun h2 => ?_)
  · refine J_bind fun x3 hx3 => ?_
    refine J_bind fun x4 hx4 => ?_
    refine J_bind fun x5 hx5 => ?_
    refine q_J.step (fun g => j_icmp_f rfl (cc_ne_f h2) (j_aload_n rfl rfl (j_gfr rfl hx3 (j_aload_n rfl rfl (j_gfi rfl hx4 (j_ial rfl hx5 (j_iload_n rfl rfl (g)))))))) ?_
    refine J_ite (fun h6 => ?_) (fun h6 => ?_)
    · exact J_some (fun h => j_icmp_f rfl (cc_ne_f h6) (j_iconst (1 : Int32) rfl k32_1 (j_goto rfl (j_iret rfl (q_zr (Or.inr rfl)) h))))
    exact J_some (fun h => j_icmp_t rfl (cc_ne_t h6) (j_iconst (0 : Int32) rfl k32_0 (j_iret rfl (q_zr (Or.inl rfl)) h)))
  exact J_some (fun h => j_icmp_t rfl (cc_ne_t h2) (j_iconst (0 : Int32) rfl k32_0 (j_iret rfl (q_zr (Or.inl rfl)) h)))
theorem t_Mo_isSign {fo : Option Nat} {d : Nat} (hd : 1 ≤ d) {v0 : Nat} {v1 : Int32} {σ σ1 : q_H} {r : Int32} (h : f_Mo_isSign v0 v1 σ = some (r, σ1)) : q_Rel (q_rf fo) q_Ms d 193 [.ref v0, .int v1] σ (.inl (some (.int r))) σ1 := by
  obtain ⟨d, rfl⟩ : ∃ d1, d = d1 + 1 := ⟨d - 1, by omega⟩
  exact q_Rel.of rfl rfl (b_Mo_isSign hd _ _ σ _ _ h ⟨rfl, rfl⟩)

set_option maxRecDepth 100000 in
theorem l_Mo_isWed_L4 {fo : Option Nat} {d : Nat} (hd : 1 ≤ d + 1) {o : q_O} {σ' : q_H} {E : (Int32 ⊕ Unit) → q_H → Prop} (v0 : Nat) (v1 : Int32) (hR : ∀ r σ1, E (.inl r) σ1 → o = .inl (some (.int r)) ∧ σ' = σ1) (hX : ∀ (t : Unit) σ1, E (.inr t) σ1 → q_G (q_rf fo) d m_Mo_isWed o σ' 37 [none, none, none] [] σ1)  : ∀ (n : Nat) (v2 : Int32) (σ : q_H), q_J E (f_Mo_isWed_L4 v0 v1 n v2 σ) (q_G (q_rf fo) d m_Mo_isWed o σ' 4 [some (.ref v0), some (.int v1), some (.int v2)] [] σ)
  | 0, v2, σ => J_none
  | n + 1, v2, σ => by
    unfold f_Mo_isWed_L4
    refine J_bind fun x1 hx1 => ?_
    refine J_bind fun x2 hx2 => ?_
    refine q_J.step (fun g => j_iload_n rfl rfl (j_sipush (288 : Int32) rfl ks_288 (j_aload_n rfl rfl (j_gfr rfl hx1 (j_bipush (24 : Int32) rfl kb_24 (j_ial rfl hx2 (j_iadd rfl (g)))))))) ?_
    refine J_ite (fun h3 => ?_) (fun h3 => ?_)
    · refine J_bind fun x4 hx4 => ?_
      refine J_bind fun x5 hx5 => ?_
      refine q_J.step (fun g => j_icmp_f rfl (cc_ge_f h3) (j_aload_n rfl rfl (j_gfr rfl hx4 (j_iload_n rfl rfl (j_ial rfl hx5 (j_iload_n rfl rfl (g))))))) ?_
      refine J_ite (fun h6 => ?_) (fun h6 => ?_)
      · exact J_some (fun h => j_icmp_f rfl (cc_ne_f h6) (j_iconst (1 : Int32) rfl k32_1 (j_iret rfl (q_zr (Or.inr rfl)) (hR _ _ h))))
      exact q_J.step (fun g => j_icmp_t rfl (cc_ne_t h6) (j_iinc [some (.ref v0), some (.int v1), some (.int (v2 + (1 : Int32)))] (v2 + (1 : Int32)) rfl rfl (by rw [k32_1]) (Or.inr rfl) rfl (j_goto rfl (g)))) (l_Mo_isWed_L4 hd v0 v1 hR hX n (v2 + (1 : Int32)) σ)
    exact J_some (fun h => j_icmp_t rfl (cc_ge_t h3) (j_weak (l := [none, none, none]) (And.intro (Or.inl rfl) (And.intro (Or.inl rfl) (And.intro (Or.inl rfl) True.intro))) (hX _ _ h)))

set_option maxRecDepth 100000 in
theorem b_Mo_isWed {fo : Option Nat} {d : Nat} (hd : 1 ≤ d + 1) {o : q_O} {σ' : q_H} (v0 : Nat) (v1 : Int32) (σ : q_H) : q_J (fun (r : Int32) (σ1 : q_H) => o = .inl (some (.int r)) ∧ σ' = σ1) (f_Mo_isWed v0 v1 σ) (q_G (q_rf fo) d m_Mo_isWed o σ' 0 [some (.ref v0), some (.int v1), none] [] σ) := by
  unfold f_Mo_isWed
  refine J_sq (fun (t0 : Int32 ⊕ Unit) (σ2 : q_H) => match t0 with | .inl r => o = .inl (some (.int r)) ∧ σ' = σ2 | .inr t1 => q_G (q_rf fo) d m_Mo_isWed o σ' 37 [none, none, none] [] σ2) (q_J.step (fun g => j_sipush (288 : Int32) rfl ks_288 (j_istore_n [some (.ref v0), some (.int v1), some (.int (288 : Int32))] rfl rfl (Or.inr rfl) rfl (g))) (l_Mo_isWed_L4 hd v0 v1 (fun _ _ h => h) (fun _ _ h => h) q_FU (288 : Int32) σ)) (fun t0 σ2 => ?_)
  cases t0 with
  | inl r3 => exact J_some (fun h => h)
  | inr t1 =>
    exact J_some (fun h => j_iconst (0 : Int32) rfl k32_0 (j_iret rfl (q_zr (Or.inl rfl)) h))
theorem t_Mo_isWed {fo : Option Nat} {d : Nat} (hd : 1 ≤ d) {v0 : Nat} {v1 : Int32} {σ σ1 : q_H} {r : Int32} (h : f_Mo_isWed v0 v1 σ = some (r, σ1)) : q_Rel (q_rf fo) q_Ms d 195 [.ref v0, .int v1] σ (.inl (some (.int r))) σ1 := by
  obtain ⟨d, rfl⟩ : ∃ d1, d = d1 + 1 := ⟨d - 1, by omega⟩
  exact q_Rel.of rfl rfl (b_Mo_isWed hd _ _ σ _ _ h ⟨rfl, rfl⟩)

set_option maxRecDepth 100000 in
theorem b_Mo_copies {fo : Option Nat} {d : Nat} (hd : 1 ≤ d + 1) {o : q_O} {σ' : q_H} (v0 : Nat) (v1 : Int32) (v2 : Int32) (σ : q_H) : q_J (fun (r : Unit) (σ1 : q_H) => o = .inl none ∧ σ' = σ1) (f_Mo_copies v0 v1 v2 σ) (q_G (q_rf fo) d m_Mo_copies o σ' 0 [some (.ref v0), some (.int v1), some (.int v2)] [] σ) := by
  unfold f_Mo_copies
  refine J_bind fun x1 hx1 => ?_
  refine J_bind fun x2 hx2 => ?_
  refine J_bind fun x3 hx3 => ?_
  refine J_bind fun σ4 hσ4 => ?_
  refine J_bind fun x5 hx5 => ?_
  refine J_bind fun x6 hx6 => ?_
  refine J_bind fun x7 hx7 => ?_
  refine J_bind fun σ8 hσ8 => ?_
  refine J_bind fun x9 hx9 => ?_
  refine J_bind fun x10 hx10 => ?_
  refine J_bind fun x11 hx11 => ?_
  refine J_bind fun σ12 hσ12 => ?_
  refine J_bind fun x13 hx13 => ?_
  refine J_bind fun x14 hx14 => ?_
  refine J_bind fun x15 hx15 => ?_
  refine J_bind fun σ16 hσ16 => ?_
  refine J_bind fun x17 hx17 => ?_
  refine J_bind fun x18 hx18 => ?_
  refine J_bind fun x19 hx19 => ?_
  refine J_bind fun σ20 hσ20 => ?_
  refine J_bind fun x21 hx21 => ?_
  refine J_bind fun x22 hx22 => ?_
  refine J_bind fun x23 hx23 => ?_
  refine J_bind fun σ24 hσ24 => ?_
  refine J_bind fun x25 hx25 => ?_
  refine J_bind fun x26 hx26 => ?_
  refine J_bind fun x27 hx27 => ?_
  refine J_bind fun σ28 hσ28 => ?_
  refine J_bind fun x29 hx29 => ?_
  refine J_bind fun x30 hx30 => ?_
  refine J_bind fun x31 hx31 => ?_
  refine J_bind fun σ32 hσ32 => ?_
  exact J_some (fun h => j_aload_n rfl rfl (j_gfr rfl hx1 (j_iload_n rfl rfl (j_aload_n rfl rfl (j_gfr rfl hx2 (j_iload_n rfl rfl (j_ial rfl hx3 (j_ias rfl hσ4 (j_aload_n rfl rfl (j_gfr rfl hx5 (j_iload_n rfl rfl (j_aload_n rfl rfl (j_gfr rfl hx6 (j_iload_n rfl rfl (j_ial rfl hx7 (j_ias rfl hσ8 (j_aload_n rfl rfl (j_gfr rfl hx9 (j_iload_n rfl rfl (j_aload_n rfl rfl (j_gfr rfl hx10 (j_iload_n rfl rfl (j_ial rfl hx11 (j_ias rfl hσ12 (j_aload_n rfl rfl (j_gfr rfl hx13 (j_iload_n rfl rfl (j_aload_n rfl rfl (j_gfr rfl hx14 (j_iload_n rfl rfl (j_ial rfl hx15 (j_ias rfl hσ16 (j_aload_n rfl rfl (j_gfr rfl hx17 (j_iload_n rfl rfl (j_aload_n rfl rfl (j_gfr rfl hx18 (j_iload_n rfl rfl (j_ial rfl hx19 (j_ias rfl hσ20 (j_aload_n rfl rfl (j_gfr rfl hx21 (j_iload_n rfl rfl (j_aload_n rfl rfl (j_gfr rfl hx22 (j_iload_n rfl rfl (j_lal rfl hx23 (j_las rfl hσ24 (j_aload_n rfl rfl (j_gfr rfl hx25 (j_iload_n rfl rfl (j_aload_n rfl rfl (j_gfr rfl hx26 (j_iload_n rfl rfl (j_lal rfl hx27 (j_las rfl hσ28 (j_aload_n rfl rfl (j_gfr rfl hx29 (j_iload_n rfl rfl (j_aload_n rfl rfl (j_gfr rfl hx30 (j_iload_n rfl rfl (j_lal rfl hx31 (j_las rfl hσ32 (j_vret rfl rfl h)))))))))))))))))))))))))))))))))))))))))))))))))))))))))))))))))
theorem t_Mo_copies {fo : Option Nat} {d : Nat} (hd : 1 ≤ d) {v0 : Nat} {v1 : Int32} {v2 : Int32} {σ σ1 : q_H} {r : Unit} (h : f_Mo_copies v0 v1 v2 σ = some (r, σ1)) : q_Rel (q_rf fo) q_Ms d 196 [.ref v0, .int v1, .int v2] σ (.inl none) σ1 := by
  obtain ⟨d, rfl⟩ : ∃ d1, d = d1 + 1 := ⟨d - 1, by omega⟩
  exact q_Rel.of rfl rfl (b_Mo_copies hd _ _ _ σ _ _ h ⟨rfl, rfl⟩)

set_option maxRecDepth 100000 in
theorem b_Mo_kinOf {fo : Option Nat} {d : Nat} (hd : 1 ≤ d + 1) {o : q_O} {σ' : q_H} (v0 : Nat) (v1 : Int32) (v2 : Int32) (σ : q_H) : q_J (fun (r : Int32) (σ1 : q_H) => o = .inl (some (.int r)) ∧ σ' = σ1) (f_Mo_kinOf v0 v1 v2 σ) (q_G (q_rf fo) d m_Mo_kinOf o σ' 0 [some (.ref v0), some (.int v1), some (.int v2), none, none] [] σ) := by
  unfold f_Mo_kinOf
  refine J_bind fun x1 hx1 => ?_
  refine J_bind fun x2 hx2 => ?_
  refine q_J.step (fun g => j_aload_n rfl rfl (j_gfr rfl hx1 (j_iload_n rfl rfl (j_lal rfl hx2 (j_lconst (0 : Int64) rfl kl_0 (j_lcmp rfl (g))))))) ?_
  refine J_ite (fun h3 => ?_) (fun h3 => ?_)
  · refine J_bind fun x4 hx4 => ?_
    refine J_bind fun x5 hx5 => ?_
    refine J_bind fun x6 hx6 => ?_
    refine J_bind fun x7 hx7 => ?_
    refine q_J.step (fun g => j_if_f rfl (lc_le_f h3) (j_aload_n rfl rfl (j_gfr rfl hx4 (j_iload_n rfl rfl (j_lal rfl hx5 (j_aload_n rfl rfl (j_gfr rfl hx6 (j_iload_n rfl rfl (j_lal rfl hx7 (j_lcmp rfl (g))))))))))) ?_
    refine J_sq (fun (t9 : Int32) (σ10 : q_H) => q_G (q_rf fo) d m_Mo_kinOf o σ' 32 [some (.ref v0), some (.int v1), some (.int v2), none, none] [.int t9] σ10) ?_ (fun t9 σ10 => ?_)
    · refine J_ite (fun h8 => ?_) (fun h8 => ?_)
      · exact J_some (fun h => j_if_f rfl (lc_ne_f h8) (j_iconst (1 : Int32) rfl k32_1 (j_goto rfl (h))))
      exact J_some (fun h => j_if_t rfl (lc_ne_t h8) (j_iconst (0 : Int32) rfl k32_0 (h)))
    refine J_bind fun x11 hx11 => ?_
    refine J_bind fun x12 hx12 => ?_
    refine q_J.step (fun g => j_istore_n [some (.ref v0), some (.int v1), some (.int v2), some (.int t9), none] rfl rfl (Or.inr rfl) rfl (j_aload_n rfl rfl (j_gfr rfl hx11 (j_iload_n rfl rfl (j_lal rfl hx12 (j_lconst (0 : Int64) rfl kl_0 (j_lcmp rfl (g)))))))) ?_
    refine J_ite (fun h13 => ?_) (fun h13 => ?_)
    · refine J_bind fun x14 hx14 => ?_
      refine J_bind fun x15 hx15 => ?_
      refine J_bind fun x16 hx16 => ?_
      refine J_bind fun x17 hx17 => ?_
      refine q_J.step (fun g => j_if_f rfl (lc_le_f h13) (j_aload_n rfl rfl (j_gfr rfl hx14 (j_iload_n rfl rfl (j_lal rfl hx15 (j_aload_n rfl rfl (j_gfr rfl hx16 (j_iload_n rfl rfl (j_lal rfl hx17 (j_lcmp rfl (g))))))))))) ?_
      refine J_sq (fun (t19 : Int32) (σ20 : q_H) => q_G (q_rf fo) d m_Mo_kinOf o σ' 65 [none, none, none, some (.int t9), none] [.int t19] σ20) ?_ (fun t19 σ20 => ?_)
      · refine J_ite (fun h18 => ?_) (fun h18 => ?_)
        · exact J_some (fun h => j_if_f rfl (lc_ne_f h18) (j_iconst (1 : Int32) rfl k32_1 (j_goto rfl (j_weak (l := [none, none, none, some (.int t9), none]) (And.intro (Or.inl rfl) (And.intro (Or.inl rfl) (And.intro (Or.inl rfl) (And.intro (Or.inr rfl) (And.intro (Or.inr rfl) True.intro))))) (h)))))
        exact J_some (fun h => j_if_t rfl (lc_ne_t h18) (j_iconst (0 : Int32) rfl k32_0 (j_weak (l := [none, none, none, some (.int t9), none]) (And.intro (Or.inl rfl) (And.intro (Or.inl rfl) (And.intro (Or.inl rfl) (And.intro (Or.inr rfl) (And.intro (Or.inr rfl) True.intro))))) (h))))
      refine q_J.step (fun g => j_istore [none, none, none, some (.int t9), some (.int t19)] rfl rfl (Or.inr rfl) rfl (j_iload_n rfl rfl (g))) ?_
      refine J_ite (fun h21 => ?_) (fun h21 => ?_)
      · refine q_J.step (fun g => j_if_t rfl (cc_eq_t h21) (j_iload_n rfl rfl (g))) ?_
        refine J_ite (fun h22 => ?_) (fun h22 => ?_)
        · refine q_J.step (fun g => j_if_f rfl (cc_ne_f h22) (j_iload rfl rfl (g))) ?_
          refine J_ite (fun h23 => ?_) (fun h23 => ?_)
          · exact J_some (fun h => j_if_t rfl (cc_eq_t h23) (j_iconst (0 : Int32) rfl k32_0 (j_iret rfl rfl h)))
          exact J_some (fun h => j_if_f rfl (cc_eq_f h23) (j_iconst (1 : Int32) rfl k32_1 (j_goto rfl (j_iret rfl rfl h))))
        exact J_some (fun h => j_if_t rfl (cc_ne_t h22) (j_iconst (1 : Int32) rfl k32_1 (j_goto rfl (j_iret rfl rfl h))))
      refine q_J.step (fun g => j_if_f rfl (cc_eq_f h21) (j_iload rfl rfl (g))) ?_
      refine J_ite (fun h24 => ?_) (fun h24 => ?_)
      · refine q_J.step (fun g => j_if_t rfl (cc_eq_t h24) (j_iload_n rfl rfl (g))) ?_
        refine J_ite (fun h25 => ?_) (fun h25 => ?_)
        · refine q_J.step (fun g => j_if_f rfl (cc_ne_f h25) (j_iload rfl rfl (g))) ?_
          refine J_ite (fun h26 => ?_) (fun h26 => ?_)
          · exact J_some (fun h => j_if_t rfl (cc_eq_t h26) (j_iconst (0 : Int32) rfl k32_0 (j_iret rfl rfl h)))
          exact J_some (fun h => j_if_f rfl (cc_eq_f h26) (j_iconst (1 : Int32) rfl k32_1 (j_goto rfl (j_iret rfl rfl h))))
        exact J_some (fun h => j_if_t rfl (cc_ne_t h25) (j_iconst (1 : Int32) rfl k32_1 (j_goto rfl (j_iret rfl rfl h))))
      exact J_some (fun h => j_if_f rfl (cc_eq_f h24) (j_iconst (2 : Int32) rfl k32_2 (j_goto rfl (j_iret rfl rfl h))))
    refine q_J.step (fun g => j_if_t rfl (lc_le_t h13) (j_iconst (0 : Int32) rfl k32_0 (j_istore [some (.ref v0), some (.int v1), some (.int v2), some (.int t9), some (.int (0 : Int32))] rfl rfl (Or.inr rfl) rfl (j_iload_n rfl rfl (g))))) ?_
    refine J_ite (fun h27 => ?_) (fun h27 => ?_)
    · refine q_J.step (fun g => j_if_t rfl (cc_eq_t h27) (j_iload_n rfl rfl (g))) ?_
      refine J_ite (fun h28 => ?_) (fun h28 => ?_)
      · refine q_J.step (fun g => j_if_f rfl (cc_ne_f h28) (j_iload rfl rfl (g))) ?_
        refine J_ite (fun h29 => ?_) (fun h29 => ?_)
        · exact J_some (fun h => j_if_t rfl (cc_eq_t h29) (j_iconst (0 : Int32) rfl k32_0 (j_iret rfl rfl h)))
        exact J_some (fun h => j_if_f rfl (cc_eq_f h29) (j_iconst (1 : Int32) rfl k32_1 (j_goto rfl (j_iret rfl rfl h))))
      exact J_some (fun h => j_if_t rfl (cc_ne_t h28) (j_iconst (1 : Int32) rfl k32_1 (j_goto rfl (j_iret rfl rfl h))))
    refine q_J.step (fun g => j_if_f rfl (cc_eq_f h27) (j_iload rfl rfl (g))) ?_
    refine J_ite (fun h30 => ?_) (fun h30 => ?_)
    · refine q_J.step (fun g => j_if_t rfl (cc_eq_t h30) (j_iload_n rfl rfl (g))) ?_
      refine J_ite (fun h31 => ?_) (fun h31 => ?_)
      · refine q_J.step (fun g => j_if_f rfl (cc_ne_f h31) (j_iload rfl rfl (g))) ?_
        refine J_ite (fun h32 => ?_) (fun h32 => ?_)
        · exact J_some (fun h => j_if_t rfl (cc_eq_t h32) (j_iconst (0 : Int32) rfl k32_0 (j_iret rfl rfl h)))
        exact J_some (fun h => j_if_f rfl (cc_eq_f h32) (j_iconst (1 : Int32) rfl k32_1 (j_goto rfl (j_iret rfl rfl h))))
      exact J_some (fun h => j_if_t rfl (cc_ne_t h31) (j_iconst (1 : Int32) rfl k32_1 (j_goto rfl (j_iret rfl rfl h))))
    exact J_some (fun h => j_if_f rfl (cc_eq_f h30) (j_iconst (2 : Int32) rfl k32_2 (j_goto rfl (j_iret rfl rfl h))))
  refine J_bind fun x33 hx33 => ?_
  refine J_bind fun x34 hx34 => ?_
  refine q_J.step (fun g => j_if_t rfl (lc_le_t h3) (j_iconst (0 : Int32) rfl k32_0 (j_istore_n [some (.ref v0), some (.int v1), some (.int v2), some (.int (0 : Int32)), none] rfl rfl (Or.inr rfl) rfl (j_aload_n rfl rfl (j_gfr rfl hx33 (j_iload_n rfl rfl (j_lal rfl hx34 (j_lconst (0 : Int64) rfl kl_0 (j_lcmp rfl (g)))))))))) ?_
  refine J_ite (fun h35 => ?_) (fun h35 => ?_)
  · refine J_bind fun x36 hx36 => ?_
    refine J_bind fun x37 hx37 => ?_
    refine J_bind fun x38 hx38 => ?_
    refine J_bind fun x39 hx39 => ?_
    refine q_J.step (fun g => j_if_f rfl (lc_le_f h35) (j_aload_n rfl rfl (j_gfr rfl hx36 (j_iload_n rfl rfl (j_lal rfl hx37 (j_aload_n rfl rfl (j_gfr rfl hx38 (j_iload_n rfl rfl (j_lal rfl hx39 (j_lcmp rfl (g))))))))))) ?_
    refine J_sq (fun (t41 : Int32) (σ42 : q_H) => q_G (q_rf fo) d m_Mo_kinOf o σ' 65 [none, none, none, some (.int (0 : Int32)), none] [.int t41] σ42) ?_ (fun t41 σ42 => ?_)
    · refine J_ite (fun h40 => ?_) (fun h40 => ?_)
      · exact J_some (fun h => j_if_f rfl (lc_ne_f h40) (j_iconst (1 : Int32) rfl k32_1 (j_goto rfl (j_weak (l := [none, none, none, some (.int (0 : Int32)), none]) (And.intro (Or.inl rfl) (And.intro (Or.inl rfl) (And.intro (Or.inl rfl) (And.intro (Or.inr rfl) (And.intro (Or.inr rfl) True.intro))))) (h)))))
      exact J_some (fun h => j_if_t rfl (lc_ne_t h40) (j_iconst (0 : Int32) rfl k32_0 (j_weak (l := [none, none, none, some (.int (0 : Int32)), none]) (And.intro (Or.inl rfl) (And.intro (Or.inl rfl) (And.intro (Or.inl rfl) (And.intro (Or.inr rfl) (And.intro (Or.inr rfl) True.intro))))) (h))))
    refine q_J.step (fun g => j_istore [none, none, none, some (.int (0 : Int32)), some (.int t41)] rfl rfl (Or.inr rfl) rfl (j_iload_n rfl rfl (g))) ?_
    refine J_ite (fun h43 => ?_) (fun h43 => ?_)
    · refine q_J.step (fun g => j_if_t rfl (cc_eq_t h43) (j_iload_n rfl rfl (g))) ?_
      refine J_ite (fun h44 => ?_) (fun h44 => ?_)
      · refine q_J.step (fun g => j_if_f rfl (cc_ne_f h44) (j_iload rfl rfl (g))) ?_
        refine J_ite (fun h45 => ?_) (fun h45 => ?_)
        · exact J_some (fun h => j_if_t rfl (cc_eq_t h45) (j_iconst (0 : Int32) rfl k32_0 (j_iret rfl rfl h)))
        exact J_some (fun h => j_if_f rfl (cc_eq_f h45) (j_iconst (1 : Int32) rfl k32_1 (j_goto rfl (j_iret rfl rfl h))))
      exact J_some (fun h => j_if_t rfl (cc_ne_t h44) (j_iconst (1 : Int32) rfl k32_1 (j_goto rfl (j_iret rfl rfl h))))
    refine q_J.step (fun g => j_if_f rfl (cc_eq_f h43) (j_iload rfl rfl (g))) ?_
    refine J_ite (fun h46 => ?_) (fun h46 => ?_)
    · refine q_J.step (fun g => j_if_t rfl (cc_eq_t h46) (j_iload_n rfl rfl (g))) ?_
      refine J_ite (fun h47 => ?_) (fun h47 => ?_)
      · refine q_J.step (fun g => j_if_f rfl (cc_ne_f h47) (j_iload rfl rfl (g))) ?_
        refine J_ite (fun h48 => ?_) (fun h48 => ?_)
        · exact J_some (fun h => j_if_t rfl (cc_eq_t h48) (j_iconst (0 : Int32) rfl k32_0 (j_iret rfl rfl h)))
        exact J_some (fun h => j_if_f rfl (cc_eq_f h48) (j_iconst (1 : Int32) rfl k32_1 (j_goto rfl (j_iret rfl rfl h))))
      exact J_some (fun h => j_if_t rfl (cc_ne_t h47) (j_iconst (1 : Int32) rfl k32_1 (j_goto rfl (j_iret rfl rfl h))))
    exact J_some (fun h => j_if_f rfl (cc_eq_f h46) (j_iconst (2 : Int32) rfl k32_2 (j_goto rfl (j_iret rfl rfl h))))
  refine q_J.step (fun g => j_if_t rfl (lc_le_t h35) (j_iconst (0 : Int32) rfl k32_0 (j_istore [some (.ref v0), some (.int v1), some (.int v2), some (.int (0 : Int32)), some (.int (0 : Int32))] rfl rfl (Or.inr rfl) rfl (j_iload_n rfl rfl (g))))) ?_
  refine J_ite (fun h49 => ?_) (fun h49 => ?_)
  · refine q_J.step (fun g => j_if_t rfl (cc_eq_t h49) (j_iload_n rfl rfl (g))) ?_
    refine J_ite (fun h50 => ?_) (fun h50 => ?_)
    · refine q_J.step (fun g => j_if_f rfl (cc_ne_f h50) (j_iload rfl rfl (g))) ?_
      refine J_ite (fun h51 => ?_) (fun h51 => ?_)
      · exact J_some (fun h => j_if_t rfl (cc_eq_t h51) (j_iconst (0 : Int32) rfl k32_0 (j_iret rfl rfl h)))
      exact J_some (fun h => j_if_f rfl (cc_eq_f h51) (j_iconst (1 : Int32) rfl k32_1 (j_goto rfl (j_iret rfl rfl h))))
    exact J_some (fun h => j_if_t rfl (cc_ne_t h50) (j_iconst (1 : Int32) rfl k32_1 (j_goto rfl (j_iret rfl rfl h))))
  refine q_J.step (fun g => j_if_f rfl (cc_eq_f h49) (j_iload rfl rfl (g))) ?_
  refine J_ite (fun h52 => ?_) (fun h52 => ?_)
  · refine q_J.step (fun g => j_if_t rfl (cc_eq_t h52) (j_iload_n rfl rfl (g))) ?_
    refine J_ite (fun h53 => ?_) (fun h53 => ?_)
    · refine q_J.step (fun g => j_if_f rfl (cc_ne_f h53) (j_iload rfl rfl (g))) ?_
      refine J_ite (fun h54 => ?_) (fun h54 => ?_)
      · exact J_some (fun h => j_if_t rfl (cc_eq_t h54) (j_iconst (0 : Int32) rfl k32_0 (j_iret rfl rfl h)))
      exact J_some (fun h => j_if_f rfl (cc_eq_f h54) (j_iconst (1 : Int32) rfl k32_1 (j_goto rfl (j_iret rfl rfl h))))
    exact J_some (fun h => j_if_t rfl (cc_ne_t h53) (j_iconst (1 : Int32) rfl k32_1 (j_goto rfl (j_iret rfl rfl h))))
  exact J_some (fun h => j_if_f rfl (cc_eq_f h52) (j_iconst (2 : Int32) rfl k32_2 (j_goto rfl (j_iret rfl rfl h))))
theorem t_Mo_kinOf {fo : Option Nat} {d : Nat} (hd : 1 ≤ d) {v0 : Nat} {v1 : Int32} {v2 : Int32} {σ σ1 : q_H} {r : Int32} (h : f_Mo_kinOf v0 v1 v2 σ = some (r, σ1)) : q_Rel (q_rf fo) q_Ms d 198 [.ref v0, .int v1, .int v2] σ (.inl (some (.int r))) σ1 := by
  obtain ⟨d, rfl⟩ : ∃ d1, d = d1 + 1 := ⟨d - 1, by omega⟩
  exact q_Rel.of rfl rfl (b_Mo_kinOf hd _ _ _ σ _ _ h ⟨rfl, rfl⟩)

set_option maxRecDepth 100000 in
theorem b_Mo_husband {fo : Option Nat} {d : Nat} (hd : 1 ≤ d + 1) {o : q_O} {σ' : q_H} (v0 : Nat) (v1 : Int32) (v2 : Int32) (σ : q_H) : q_J (fun (r : Int32) (σ1 : q_H) => o = .inl (some (.int r)) ∧ σ' = σ1) (f_Mo_husband v0 v1 v2 σ) (q_G (q_rf fo) d m_Mo_husband o σ' 0 [some (.ref v0), some (.int v1), some (.int v2)] [] σ) := by
  unfold f_Mo_husband
  refine J_bind fun x1 hx1 => ?_
  refine J_bind fun x2 hx2 => ?_
  exact J_some (fun h => j_bipush (12 : Int32) rfl kb_12 (j_iload_n rfl rfl (j_imul rfl (j_aload_n rfl rfl (j_gfr rfl hx1 (j_bipush (12 : Int32) rfl kb_12 (j_iload_n rfl rfl (j_imul rfl (j_iload_n rfl rfl (j_iadd rfl (j_ial rfl hx2 (j_iadd rfl (j_iret rfl rfl h)))))))))))))
theorem t_Mo_husband {fo : Option Nat} {d : Nat} (hd : 1 ≤ d) {v0 : Nat} {v1 : Int32} {v2 : Int32} {σ σ1 : q_H} {r : Int32} (h : f_Mo_husband v0 v1 v2 σ = some (r, σ1)) : q_Rel (q_rf fo) q_Ms d 202 [.ref v0, .int v1, .int v2] σ (.inl (some (.int r))) σ1 := by
  obtain ⟨d, rfl⟩ : ∃ d1, d = d1 + 1 := ⟨d - 1, by omega⟩
  exact q_Rel.of rfl rfl (b_Mo_husband hd _ _ _ σ _ _ h ⟨rfl, rfl⟩)

set_option maxRecDepth 100000 in
theorem b_Mo_sorts {fo : Option Nat} {d : Nat} (hd : 1 ≤ d + 1) {o : q_O} {σ' : q_H} (v0 : Int32) (σ : q_H) : q_J (fun (r : Int32) (σ1 : q_H) => o = .inl (some (.int r)) ∧ σ' = σ1) (f_Mo_sorts v0 σ) (q_G (q_rf fo) d m_Mo_sorts o σ' 0 [some (.int v0)] [] σ) := by
  unfold f_Mo_sorts
  refine q_J.step (fun g => j_iload_n rfl rfl (g)) ?_
  refine J_ite (fun h1 => ?_) (fun h1 => ?_)
  · exact J_some (fun h => j_if_f rfl (cc_ne_f h1) (j_iconst (1 : Int32) rfl k32_1 (j_goto rfl (j_iret rfl rfl h))))
  refine q_J.step (fun g => j_if_t rfl (cc_ne_t h1) (j_iload_n rfl rfl (j_iconst (1 : Int32) rfl k32_1 (g)))) ?_
  refine J_ite (fun h2 => ?_) (fun h2 => ?_)
  · exact J_some (fun h => j_icmp_f rfl (cc_ne_f h2) (j_iconst (5 : Int32) rfl k32_5 (j_goto rfl (j_iret rfl rfl h))))
  exact J_some (fun h => j_icmp_t rfl (cc_ne_t h2) (j_bipush (13 : Int32) rfl kb_13 (j_iret rfl rfl h)))
theorem t_Mo_sorts {fo : Option Nat} {d : Nat} (hd : 1 ≤ d) {v0 : Int32} {σ σ1 : q_H} {r : Int32} (h : f_Mo_sorts v0 σ = some (r, σ1)) : q_Rel (q_rf fo) q_Ms d 210 [.int v0] σ (.inl (some (.int r))) σ1 := by
  obtain ⟨d, rfl⟩ : ∃ d1, d = d1 + 1 := ⟨d - 1, by omega⟩
  exact q_Rel.of rfl rfl (b_Mo_sorts hd _ σ _ _ h ⟨rfl, rfl⟩)

set_option maxRecDepth 100000 in
theorem l_Mo_lowest_L17 {fo : Option Nat} {d : Nat} (hd : 1 ≤ d + 1) {o : q_O} {σ' : q_H} {E : (Int64) → q_H → Prop} (v0 : Int64) (v2 : Int64) (v4 : Int32) (hX : ∀ (t : Int64) σ1, E (t) σ1 → q_G (q_rf fo) d m_Mo_lowest o σ' 42 [some (.long v0), none, some (.long v2), none, some (.int v4), some (.long t), none, none, none, none, none] [] σ1)  : ∀ (n : Nat) (v5 : Int64) (v7 : Int64) (σ : q_H), q_J E (f_Mo_lowest_L17 v0 v2 v4 n v5 v7 σ) (q_G (q_rf fo) d m_Mo_lowest o σ' 17 [some (.long v0), none, some (.long v2), none, some (.int v4), some (.long v5), none, some (.long v7), none, none, none] [] σ)
  | 0, v5, v7, σ => J_none
  | n + 1, v5, v7, σ => by
    unfold f_Mo_lowest_L17
    refine q_J.step (fun g => j_lload rfl rfl (j_lconst (0 : Int64) rfl kl_0 (j_lcmp rfl (g)))) ?_
    refine J_ite (fun h1 => ?_) (fun h1 => ?_)
    · exact J_some (fun h => j_if_t rfl (lc_eq_t h1) (j_weak (l := [some (.long v0), none, some (.long v2), none, some (.int v4), some (.long v5), none, none, none, none, none]) (And.intro (Or.inr rfl) (And.intro (Or.inr rfl) (And.intro (Or.inr rfl) (And.intro (Or.inr rfl) (And.intro (Or.inr rfl) (And.intro (Or.inr rfl) (And.intro (Or.inr rfl) (And.intro (Or.inl rfl) (And.intro (Or.inr rfl) (And.intro (Or.inr rfl) (And.intro (Or.inr rfl) True.intro))))))))))) (hX _ _ h)))
    refine q_J.step (fun g => j_if_f rfl (lc_eq_f h1) (j_lload rfl rfl (j_lload rfl rfl (g)))) ?_
    refine J_ite (fun _ => J_none) (fun h2 => ?_)
    exact q_J.step (fun g => j_lrem rfl h2 (j_lstore [some (.long v0), none, some (.long v2), none, some (.int v4), some (.long v5), none, some (.long v7), none, some (.long (v5 - v5 / v7 * v7)), none] rfl rfl (Or.inr True.intro) rfl (j_lload rfl rfl (j_lstore [some (.long v0), none, some (.long v2), none, some (.int v4), some (.long v7), none, some (.long v7), none, some (.long (v5 - v5 / v7 * v7)), none] rfl rfl (Or.inr rfl) rfl (j_lload rfl rfl (j_lstore [some (.long v0), none, some (.long v2), none, some (.int v4), some (.long v7), none, some (.long (v5 - v5 / v7 * v7)), none, some (.long (v5 - v5 / v7 * v7)), none] rfl rfl (Or.inr True.intro) rfl (j_goto rfl (j_weak (l := [some (.long v0), none, some (.long v2), none, some (.int v4), some (.long v7), none, some (.long (v5 - v5 / v7 * v7)), none, none, none]) (And.intro (Or.inr rfl) (And.intro (Or.inr rfl) (And.intro (Or.inr rfl) (And.intro (Or.inr rfl) (And.intro (Or.inr rfl) (And.intro (Or.inr rfl) (And.intro (Or.inr rfl) (And.intro (Or.inr rfl) (And.intro (Or.inr rfl) (And.intro (Or.inl rfl) (And.intro (Or.inr rfl) True.intro))))))))))) (g))))))))) (l_Mo_lowest_L17 hd v0 v2 v4 hX n v7 (v5 - v5 / v7 * v7) σ)

set_option maxRecDepth 100000 in
theorem b_Mo_lowest {fo : Option Nat} {d : Nat} (hd : 1 ≤ d + 1) {o : q_O} {σ' : q_H} (v0 : Int64) (v2 : Int64) (v4 : Int32) (σ : q_H) : q_J (fun (r : Int64) (σ1 : q_H) => o = .inl (some (.long r)) ∧ σ' = σ1) (f_Mo_lowest v0 v2 v4 σ) (q_G (q_rf fo) d m_Mo_lowest o σ' 0 [some (.long v0), none, some (.long v2), none, some (.int v4), none, none, none, none, none, none] [] σ) := by
  unfold f_Mo_lowest
  refine q_J.step (fun g => j_lload_n rfl rfl (j_lconst (0 : Int64) rfl kl_0 (j_lcmp rfl (g)))) ?_
  refine J_sq (fun (t2 : Int64) (σ3 : q_H) => q_G (q_rf fo) d m_Mo_lowest o σ' 12 [some (.long v0), none, some (.long v2), none, some (.int v4), none, none, none, none, none, none] [.long t2] σ3) ?_ (fun t2 σ3 => ?_)
  · refine J_ite (fun h1 => ?_) (fun h1 => ?_)
    · exact J_some (fun h => j_if_f rfl (lc_ge_f h1) (j_lload_n rfl rfl (j_lneg rfl (j_goto rfl (h)))))
    exact J_some (fun h => j_if_t rfl (lc_ge_t h1) (j_lload_n rfl rfl (h)))
  refine J_sq (fun (t4 : Int64) (σ5 : q_H) => q_G (q_rf fo) d m_Mo_lowest o σ' 42 [some (.long v0), none, some (.long v2), none, some (.int v4), some (.long t4), none, none, none, none, none] [] σ5) (q_J.step (fun g => j_lstore [some (.long v0), none, some (.long v2), none, some (.int v4), some (.long t2), none, none, none, none, none] rfl rfl (Or.inr rfl) rfl (j_lload_n rfl rfl (j_lstore [some (.long v0), none, some (.long v2), none, some (.int v4), some (.long t2), none, some (.long v2), none, none, none] rfl rfl (Or.inr True.intro) rfl (g)))) (l_Mo_lowest_L17 hd v0 v2 v4 (fun _ _ h => h) q_FU t2 v2 σ3)) (fun t4 σ5 => ?_)
  refine q_J.step (fun g => j_iload rfl rfl (g)) ?_
  refine J_ite (fun h6 => ?_) (fun h6 => ?_)
  · refine q_J.step (fun g => j_if_f rfl (cc_ne_f h6) (j_lload_n rfl rfl (j_lload rfl rfl (g)))) ?_
    refine J_ite (fun _ => J_none) (fun h7 => ?_)
    exact J_some (fun h => j_ldiv rfl h7 (j_goto rfl (j_lret rfl rfl h)))
  refine q_J.step (fun g => j_if_t rfl (cc_ne_t h6) (j_lload_n rfl rfl (j_lload rfl rfl (g)))) ?_
  refine J_ite (fun _ => J_none) (fun h8 => ?_)
  exact J_some (fun h => j_ldiv rfl h8 (j_lret rfl rfl h))
theorem t_Mo_lowest {fo : Option Nat} {d : Nat} (hd : 1 ≤ d) {v0 : Int64} {v2 : Int64} {v4 : Int32} {σ σ1 : q_H} {r : Int64} (h : f_Mo_lowest v0 v2 v4 σ = some (r, σ1)) : q_Rel (q_rf fo) q_Ms d 211 [.long v0, .long v2, .int v4] σ (.inl (some (.long r))) σ1 := by
  obtain ⟨d, rfl⟩ : ∃ d1, d = d1 + 1 := ⟨d - 1, by omega⟩
  exact q_Rel.of rfl rfl (b_Mo_lowest hd _ _ _ σ _ _ h ⟨rfl, rfl⟩)

set_option maxRecDepth 100000 in
theorem l_Mo_hasParent_L5 {fo : Option Nat} {d : Nat} (hd : 1 ≤ d + 1) {o : q_O} {σ' : q_H} {E : (Int32 ⊕ Unit) → q_H → Prop} (v0 : Nat) (v1 : Int32) (v2 : Int32) (hR : ∀ r σ1, E (.inl r) σ1 → o = .inl (some (.int r)) ∧ σ' = σ1) (hX : ∀ (t : Unit) σ1, E (.inr t) σ1 → q_G (q_rf fo) d m_Mo_hasParent o σ' 101 [none, none, none, none] [] σ1)  : ∀ (n : Nat) (v3 : Int32) (σ : q_H), q_J E (f_Mo_hasParent_L5 v0 v1 v2 n v3 σ) (q_G (q_rf fo) d m_Mo_hasParent o σ' 5 [some (.ref v0), some (.int v1), some (.int v2), some (.int v3)] [] σ)
  | 0, v3, σ => J_none
  | n + 1, v3, σ => by
    unfold f_Mo_hasParent_L5
    refine J_bind fun x1 hx1 => ?_
    refine J_bind fun x2 hx2 => ?_
    refine q_J.step (fun g => j_iload_n rfl rfl (j_bipush (12 : Int32) rfl kb_12 (j_iload_n rfl rfl (j_imul rfl (j_aload_n rfl rfl (j_gfr rfl hx1 (j_iload_n rfl rfl (j_ial rfl hx2 (j_iadd rfl (g)))))))))) ?_
    refine J_ite (fun h3 => ?_) (fun h3 => ?_)
    · refine J_bind fun x4 hx4 => ?_
      refine J_bind fun x5 hx5 => ?_
      refine q_J.step (fun g => j_icmp_f rfl (cc_ge_f h3) (j_aload_n rfl rfl (j_gfr rfl hx4 (j_iload_n rfl rfl (j_ial rfl hx5 (g)))))) ?_
      refine J_ite (fun h6 => ?_) (fun h6 => ?_)
      · refine J_bind fun x7 hx7 => ?_
        refine J_bind fun x8 hx8 => ?_
        refine q_J.step (fun g => j_if_f rfl (cc_ne_f h6) (j_aload_n rfl rfl (j_gfr rfl hx7 (j_iload_n rfl rfl (j_lal rfl hx8 (j_lconst (0 : Int64) rfl kl_0 (j_lcmp rfl (g)))))))) ?_
        refine J_ite (fun h9 => ?_) (fun h9 => ?_)
        · refine J_bind fun x10 hx10 => ?_
          refine J_bind fun x11 hx11 => ?_
          refine J_bind fun x12 hx12 => ?_
          refine J_bind fun x13 hx13 => ?_
          refine q_J.step (fun g => j_if_f rfl (lc_le_f h9) (j_aload_n rfl rfl (j_gfr rfl hx10 (j_iload_n rfl rfl (j_lal rfl hx11 (j_aload_n rfl rfl (j_gfr rfl hx12 (j_iload_n rfl rfl (j_lal rfl hx13 (j_lcmp rfl (g))))))))))) ?_
          refine J_ite (fun h14 => ?_) (fun h14 => ?_)
          · exact J_some (fun h => j_if_t rfl (lc_eq_t h14) (j_iconst (1 : Int32) rfl k32_1 (j_iret rfl (q_zr (Or.inr rfl)) (hR _ _ h))))
          refine J_bind fun x15 hx15 => ?_
          refine J_bind fun x16 hx16 => ?_
          refine q_J.step (fun g => j_if_f rfl (lc_eq_f h14) (j_aload_n rfl rfl (j_gfr rfl hx15 (j_iload_n rfl rfl (j_ial rfl hx16 (j_iconst (1 : Int32) rfl k32_1 (g))))))) ?_
          refine J_ite (fun h17 => ?_) (fun h17 => ?_)
          · refine J_bind fun x18 hx18 => ?_
            refine J_bind fun x19 hx19 => ?_
            refine q_J.step (fun g => j_icmp_f rfl (cc_ne_f h17) (j_aload_n rfl rfl (j_gfr rfl hx18 (j_iload_n rfl rfl (j_lal rfl hx19 (j_lconst (0 : Int64) rfl kl_0 (j_lcmp rfl (g)))))))) ?_
            refine J_ite (fun h20 => ?_) (fun h20 => ?_)
            · refine J_bind fun x21 hx21 => ?_
              refine J_bind fun x22 hx22 => ?_
              refine J_bind fun x23 hx23 => ?_
              refine J_bind fun x24 hx24 => ?_
              refine q_J.step (fun g => j_if_f rfl (lc_le_f h20) (j_aload_n rfl rfl (j_gfr rfl hx21 (j_iload_n rfl rfl (j_lal rfl hx22 (j_aload_n rfl rfl (j_gfr rfl hx23 (j_iload_n rfl rfl (j_lal rfl hx24 (j_lcmp rfl (g))))))))))) ?_
              refine J_ite (fun h25 => ?_) (fun h25 => ?_)
              · exact J_some (fun h => j_if_f rfl (lc_ne_f h25) (j_iconst (1 : Int32) rfl k32_1 (j_iret rfl (q_zr (Or.inr rfl)) (hR _ _ h))))
              exact q_J.step (fun g => j_if_t rfl (lc_ne_t h25) (j_iinc [some (.ref v0), some (.int v1), some (.int v2), some (.int (v3 + (1 : Int32)))] (v3 + (1 : Int32)) rfl rfl (by rw [k32_1]) (Or.inr rfl) rfl (j_goto rfl (g)))) (l_Mo_hasParent_L5 hd v0 v1 v2 hR hX n (v3 + (1 : Int32)) σ)
            exact q_J.step (fun g => j_if_t rfl (lc_le_t h20) (j_iinc [some (.ref v0), some (.int v1), some (.int v2), some (.int (v3 + (1 : Int32)))] (v3 + (1 : Int32)) rfl rfl (by rw [k32_1]) (Or.inr rfl) rfl (j_goto rfl (g)))) (l_Mo_hasParent_L5 hd v0 v1 v2 hR hX n (v3 + (1 : Int32)) σ)
          exact q_J.step (fun g => j_icmp_t rfl (cc_ne_t h17) (j_iinc [some (.ref v0), some (.int v1), some (.int v2), some (.int (v3 + (1 : Int32)))] (v3 + (1 : Int32)) rfl rfl (by rw [k32_1]) (Or.inr rfl) rfl (j_goto rfl (g)))) (l_Mo_hasParent_L5 hd v0 v1 v2 hR hX n (v3 + (1 : Int32)) σ)
        refine J_bind fun x26 hx26 => ?_
        refine J_bind fun x27 hx27 => ?_
        refine q_J.step (fun g => j_if_t rfl (lc_le_t h9) (j_aload_n rfl rfl (j_gfr rfl hx26 (j_iload_n rfl rfl (j_ial rfl hx27 (j_iconst (1 : Int32) rfl k32_1 (g))))))) ?_
        refine J_ite (fun h28 => ?_) (fun h28 => ?_)
        · refine J_bind fun x29 hx29 => ?_
          refine J_bind fun x30 hx30 => ?_
          refine q_J.step (fun g => j_icmp_f rfl (cc_ne_f h28) (j_aload_n rfl rfl (j_gfr rfl hx29 (j_iload_n rfl rfl (j_lal rfl hx30 (j_lconst (0 : Int64) rfl kl_0 (j_lcmp rfl (g)))))))) ?_
          refine J_ite (fun h31 => ?_) (fun h31 => ?_)
          · refine J_bind fun x32 hx32 => ?_
            refine J_bind fun x33 hx33 => ?_
            refine J_bind fun x34 hx34 => ?_
            refine J_bind fun x35 hx35 => ?_
            refine q_J.step (fun g => j_if_f rfl (lc_le_f h31) (j_aload_n rfl rfl (j_gfr rfl hx32 (j_iload_n rfl rfl (j_lal rfl hx33 (j_aload_n rfl rfl (j_gfr rfl hx34 (j_iload_n rfl rfl (j_lal rfl hx35 (j_lcmp rfl (g))))))))))) ?_
            refine J_ite (fun h36 => ?_) (fun h36 => ?_)
            · exact J_some (fun h => j_if_f rfl (lc_ne_f h36) (j_iconst (1 : Int32) rfl k32_1 (j_iret rfl (q_zr (Or.inr rfl)) (hR _ _ h))))
            exact q_J.step (fun g => j_if_t rfl (lc_ne_t h36) (j_iinc [some (.ref v0), some (.int v1), some (.int v2), some (.int (v3 + (1 : Int32)))] (v3 + (1 : Int32)) rfl rfl (by rw [k32_1]) (Or.inr rfl) rfl (j_goto rfl (g)))) (l_Mo_hasParent_L5 hd v0 v1 v2 hR hX n (v3 + (1 : Int32)) σ)
          exact q_J.step (fun g => j_if_t rfl (lc_le_t h31) (j_iinc [some (.ref v0), some (.int v1), some (.int v2), some (.int (v3 + (1 : Int32)))] (v3 + (1 : Int32)) rfl rfl (by rw [k32_1]) (Or.inr rfl) rfl (j_goto rfl (g)))) (l_Mo_hasParent_L5 hd v0 v1 v2 hR hX n (v3 + (1 : Int32)) σ)
        exact q_J.step (fun g => j_icmp_t rfl (cc_ne_t h28) (j_iinc [some (.ref v0), some (.int v1), some (.int v2), some (.int (v3 + (1 : Int32)))] (v3 + (1 : Int32)) rfl rfl (by rw [k32_1]) (Or.inr rfl) rfl (j_goto rfl (g)))) (l_Mo_hasParent_L5 hd v0 v1 v2 hR hX n (v3 + (1 : Int32)) σ)
      refine J_bind fun x37 hx37 => ?_
      refine J_bind fun x38 hx38 => ?_
      refine q_J.step (fun g => j_if_t rfl (cc_ne_t h6) (j_aload_n rfl rfl (j_gfr rfl hx37 (j_iload_n rfl rfl (j_ial rfl hx38 (j_iconst (1 : Int32) rfl k32_1 (g))))))) ?_
      refine J_ite (fun h39 => ?_) (fun h39 => ?_)
      · refine J_bind fun x40 hx40 => ?_
        refine J_bind fun x41 hx41 => ?_
        refine q_J.step (fun g => j_icmp_f rfl (cc_ne_f h39) (j_aload_n rfl rfl (j_gfr rfl hx40 (j_iload_n rfl rfl (j_lal rfl hx41 (j_lconst (0 : Int64) rfl kl_0 (j_lcmp rfl (g)))))))) ?_
        refine J_ite (fun h42 => ?_) (fun h42 => ?_)
        · refine J_bind fun x43 hx43 => ?_
          refine J_bind fun x44 hx44 => ?_
          refine J_bind fun x45 hx45 => ?_
          refine J_bind fun x46 hx46 => ?_
          refine q_J.step (fun g => j_if_f rfl (lc_le_f h42) (j_aload_n rfl rfl (j_gfr rfl hx43 (j_iload_n rfl rfl (j_lal rfl hx44 (j_aload_n rfl rfl (j_gfr rfl hx45 (j_iload_n rfl rfl (j_lal rfl hx46 (j_lcmp rfl (g))))))))))) ?_
          refine J_ite (fun h47 => ?_) (fun h47 => ?_)
          · exact J_some (fun h => j_if_f rfl (lc_ne_f h47) (j_iconst (1 : Int32) rfl k32_1 (j_iret rfl (q_zr (Or.inr rfl)) (hR _ _ h))))
          exact q_J.step (fun g => j_if_t rfl (lc_ne_t h47) (j_iinc [some (.ref v0), some (.int v1), some (.int v2), some (.int (v3 + (1 : Int32)))] (v3 + (1 : Int32)) rfl rfl (by rw [k32_1]) (Or.inr rfl) rfl (j_goto rfl (g)))) (l_Mo_hasParent_L5 hd v0 v1 v2 hR hX n (v3 + (1 : Int32)) σ)
        exact q_J.step (fun g => j_if_t rfl (lc_le_t h42) (j_iinc [some (.ref v0), some (.int v1), some (.int v2), some (.int (v3 + (1 : Int32)))] (v3 + (1 : Int32)) rfl rfl (by rw [k32_1]) (Or.inr rfl) rfl (j_goto rfl (g)))) (l_Mo_hasParent_L5 hd v0 v1 v2 hR hX n (v3 + (1 : Int32)) σ)
      exact q_J.step (fun g => j_icmp_t rfl (cc_ne_t h39) (j_iinc [some (.ref v0), some (.int v1), some (.int v2), some (.int (v3 + (1 : Int32)))] (v3 + (1 : Int32)) rfl rfl (by rw [k32_1]) (Or.inr rfl) rfl (j_goto rfl (g)))) (l_Mo_hasParent_L5 hd v0 v1 v2 hR hX n (v3 + (1 : Int32)) σ)
    exact J_some (fun h => j_icmp_t rfl (cc_ge_t h3) (j_weak (l := [none, none, none, none]) (And.intro (Or.inl rfl) (And.intro (Or.inl rfl) (And.intro (Or.inl rfl) (And.intro (Or.inl rfl) True.intro)))) (hX _ _ h)))

set_option maxRecDepth 100000 in
theorem b_Mo_hasParent {fo : Option Nat} {d : Nat} (hd : 1 ≤ d + 1) {o : q_O} {σ' : q_H} (v0 : Nat) (v1 : Int32) (v2 : Int32) (σ : q_H) : q_J (fun (r : Int32) (σ1 : q_H) => o = .inl (some (.int r)) ∧ σ' = σ1) (f_Mo_hasParent v0 v1 v2 σ) (q_G (q_rf fo) d m_Mo_hasParent o σ' 0 [some (.ref v0), some (.int v1), some (.int v2), none] [] σ) := by
  unfold f_Mo_hasParent
  refine J_sq (fun (t0 : Int32 ⊕ Unit) (σ2 : q_H) => match t0 with | .inl r => o = .inl (some (.int r)) ∧ σ' = σ2 | .inr t1 => q_G (q_rf fo) d m_Mo_hasParent o σ' 101 [none, none, none, none] [] σ2) (q_J.step (fun g => j_bipush (12 : Int32) rfl kb_12 (j_iload_n rfl rfl (j_imul rfl (j_istore_n [some (.ref v0), some (.int v1), some (.int v2), some (.int ((12 : Int32) * v1))] rfl rfl (Or.inr rfl) rfl (g))))) (l_Mo_hasParent_L5 hd v0 v1 v2 (fun _ _ h => h) (fun _ _ h => h) q_FU ((12 : Int32) * v1) σ)) (fun t0 σ2 => ?_)
  cases t0 with
  | inl r3 => exact J_some (fun h => h)
  | inr t1 =>
    exact J_some (fun h => j_iconst (0 : Int32) rfl k32_0 (j_iret rfl (q_zr (Or.inl rfl)) h))
theorem t_Mo_hasParent {fo : Option Nat} {d : Nat} (hd : 1 ≤ d) {v0 : Nat} {v1 : Int32} {v2 : Int32} {σ σ1 : q_H} {r : Int32} (h : f_Mo_hasParent v0 v1 v2 σ = some (r, σ1)) : q_Rel (q_rf fo) q_Ms d 232 [.ref v0, .int v1, .int v2] σ (.inl (some (.int r))) σ1 := by
  obtain ⟨d, rfl⟩ : ∃ d1, d = d1 + 1 := ⟨d - 1, by omega⟩
  exact q_Rel.of rfl rfl (b_Mo_hasParent hd _ _ _ σ _ _ h ⟨rfl, rfl⟩)

set_option maxRecDepth 100000 in
theorem b_Mo_isTable {fo : Option Nat} {d : Nat} (hd : 1 ≤ d + 1) {o : q_O} {σ' : q_H} (v0 : Int32) (σ : q_H) : q_J (fun (r : Int32) (σ1 : q_H) => o = .inl (some (.int r)) ∧ σ' = σ1) (f_Mo_isTable v0 σ) (q_G (q_rf fo) d m_Mo_isTable o σ' 0 [some (.int v0)] [] σ) := by
  unfold f_Mo_isTable
  refine q_J.step (fun g => j_iload_n rfl rfl (g)) ?_
  refine J_ite (fun h1 => ?_) (fun h1 => ?_)
  · exact J_some (fun h => j_if_t rfl (cc_lt_t h1) (j_iconst (0 : Int32) rfl k32_0 (j_iret rfl (q_zr (Or.inl rfl)) h)))
  refine q_J.step (fun g => j_if_f rfl (cc_lt_f h1) (j_iload_n rfl rfl (j_iconst (4 : Int32) rfl k32_4 (g)))) ?_
  refine J_ite (fun h2 => ?_) (fun h2 => ?_)
  · exact J_some (fun h => j_icmp_f rfl (cc_ge_f h2) (j_iconst (1 : Int32) rfl k32_1 (j_goto rfl (j_iret rfl (q_zr (Or.inr rfl)) h))))
  exact J_some (fun h => j_icmp_t rfl (cc_ge_t h2) (j_iconst (0 : Int32) rfl k32_0 (j_iret rfl (q_zr (Or.inl rfl)) h)))
theorem t_Mo_isTable {fo : Option Nat} {d : Nat} (hd : 1 ≤ d) {v0 : Int32} {σ σ1 : q_H} {r : Int32} (h : f_Mo_isTable v0 σ = some (r, σ1)) : q_Rel (q_rf fo) q_Ms d 234 [.int v0] σ (.inl (some (.int r))) σ1 := by
  obtain ⟨d, rfl⟩ : ∃ d1, d = d1 + 1 := ⟨d - 1, by omega⟩
  exact q_Rel.of rfl rfl (b_Mo_isTable hd _ σ _ _ h ⟨rfl, rfl⟩)

set_option maxRecDepth 100000 in
theorem b_Mo_atAge {fo : Option Nat} {d : Nat} (hd : 1 ≤ d + 1) {o : q_O} {σ' : q_H} (v0 : Nat) (v1 : Int32) (v2 : Int32) (σ : q_H) : q_J (fun (r : Int32) (σ1 : q_H) => o = .inl (some (.int r)) ∧ σ' = σ1) (f_Mo_atAge v0 v1 v2 σ) (q_G (q_rf fo) d m_Mo_atAge o σ' 0 [some (.ref v0), some (.int v1), some (.int v2), none] [] σ) := by
  unfold f_Mo_atAge
  refine q_J.step (fun g => j_iload_n rfl rfl (j_bipush (80 : Int32) rfl kb_80 (g))) ?_
  refine J_ite (fun h1 => ?_) (fun h1 => ?_)
  · refine J_bind fun x2 hx2 => ?_
    refine J_bind fun x3 hx3 => ?_
    refine J_bind fun x4 hx4 => ?_
    refine J_bind fun x5 hx5 => ?_
    exact J_some (fun h => j_icmp_t rfl (cc_lt_t h1) (j_bipush (17 : Int32) rfl kb_17 (j_iload_n rfl rfl (j_imul rfl (j_iload_n rfl rfl (j_iconst (5 : Int32) rfl k32_5 (j_idiv rfl (by decide) (j_iadd rfl (j_istore_n [some (.ref v0), some (.int v1), some (.int v2), some (.int (((17 : Int32) * v1) + (v2 / (5 : Int32))))] rfl rfl (Or.inr rfl) rfl (j_aload_n rfl rfl (j_gfr rfl hx2 (j_iload_n rfl rfl (j_ial rfl hx3 (j_iconst (5 : Int32) rfl k32_5 (j_iload_n rfl rfl (j_iconst (5 : Int32) rfl k32_5 (j_irem rfl (by decide) (j_isub rfl (j_imul rfl (j_aload_n rfl rfl (j_gfr rfl hx4 (j_iload_n rfl rfl (j_iconst (1 : Int32) rfl k32_1 (j_iadd rfl (j_ial rfl hx5 (j_iload_n rfl rfl (j_iconst (5 : Int32) rfl k32_5 (j_irem rfl (by decide) (j_imul rfl (j_iadd rfl (j_iret rfl rfl h)))))))))))))))))))))))))))))))
  refine J_bind fun x6 hx6 => ?_
  refine J_bind fun x7 hx7 => ?_
  exact J_some (fun h => j_icmp_f rfl (cc_lt_f h1) (j_iconst (5 : Int32) rfl k32_5 (j_aload_n rfl rfl (j_gfr rfl hx6 (j_bipush (17 : Int32) rfl kb_17 (j_iload_n rfl rfl (j_imul rfl (j_bipush (16 : Int32) rfl kb_16 (j_iadd rfl (j_ial rfl hx7 (j_imul rfl (j_iret rfl rfl h))))))))))))
theorem t_Mo_atAge {fo : Option Nat} {d : Nat} (hd : 1 ≤ d) {v0 : Nat} {v1 : Int32} {v2 : Int32} {σ σ1 : q_H} {r : Int32} (h : f_Mo_atAge v0 v1 v2 σ = some (r, σ1)) : q_Rel (q_rf fo) q_Ms d 236 [.ref v0, .int v1, .int v2] σ (.inl (some (.int r))) σ1 := by
  obtain ⟨d, rfl⟩ : ∃ d1, d = d1 + 1 := ⟨d - 1, by omega⟩
  exact q_Rel.of rfl rfl (b_Mo_atAge hd _ _ _ σ _ _ h ⟨rfl, rfl⟩)

set_option maxRecDepth 100000 in
theorem b_Mo_living {fo : Option Nat} {d : Nat} (hd : 1 ≤ d + 1) {o : q_O} {σ' : q_H} (v0 : Nat) (v1 : Int32) (v2 : Int32) (σ : q_H) : q_J (fun (r : Int32) (σ1 : q_H) => o = .inl (some (.int r)) ∧ σ' = σ1) (f_Mo_living v0 v1 v2 σ) (q_G (q_rf fo) d m_Mo_living o σ' 0 [some (.ref v0), some (.int v1), some (.int v2)] [] σ) := by
  unfold f_Mo_living
  refine J_bind fun x1 hx1 => ?_
  refine J_bind fun x2 hx2 => ?_
  refine q_J.step (fun g => j_aload_n rfl rfl (j_gfr rfl hx1 (j_bipush (17 : Int32) rfl kb_17 (j_iload_n rfl rfl (j_imul rfl (j_iload_n rfl rfl (j_iadd rfl (j_ial rfl hx2 (j_iload_n rfl rfl (j_bipush (16 : Int32) rfl kb_16 (g))))))))))) ?_
  refine J_ite (fun h3 => ?_) (fun h3 => ?_)
  · refine J_bind fun x4 hx4 => ?_
    refine J_bind fun x5 hx5 => ?_
    exact J_some (fun h => j_icmp_f rfl (cc_ge_f h3) (j_aload_n rfl rfl (j_gfr rfl hx4 (j_bipush (17 : Int32) rfl kb_17 (j_iload_n rfl rfl (j_imul rfl (j_iload_n rfl rfl (j_iadd rfl (j_iconst (1 : Int32) rfl k32_1 (j_iadd rfl (j_ial rfl hx5 (j_goto rfl (j_iadd rfl (j_iret rfl rfl h))))))))))))))
  exact J_some (fun h => j_icmp_t rfl (cc_ge_t h3) (j_iconst (0 : Int32) rfl k32_0 (j_iadd rfl (j_iret rfl rfl h))))
theorem t_Mo_living {fo : Option Nat} {d : Nat} (hd : 1 ≤ d) {v0 : Nat} {v1 : Int32} {v2 : Int32} {σ σ1 : q_H} {r : Int32} (h : f_Mo_living v0 v1 v2 σ = some (r, σ1)) : q_Rel (q_rf fo) q_Ms d 239 [.ref v0, .int v1, .int v2] σ (.inl (some (.int r))) σ1 := by
  obtain ⟨d, rfl⟩ : ∃ d1, d = d1 + 1 := ⟨d - 1, by omega⟩
  exact q_Rel.of rfl rfl (b_Mo_living hd _ _ _ σ _ _ h ⟨rfl, rfl⟩)

set_option maxRecDepth 100000 in
theorem b_Mo_fact {fo : Option Nat} {d : Nat} (hd : 1 ≤ d + 1) {o : q_O} {σ' : q_H} (v0 : Nat) (σ : q_H) : q_J (fun (r : Int32) (σ1 : q_H) => o = .inl (some (.int r)) ∧ σ' = σ1) (f_Mo_fact v0 σ) (q_G (q_rf fo) d m_Mo_fact o σ' 0 [some (.ref v0)] [] σ) := by
  unfold f_Mo_fact
  refine J_bind fun x1 hx1 => ?_
  refine q_J.step (fun g => j_aload_n rfl rfl (j_gfi rfl hx1 (j_iconst (1 : Int32) rfl k32_1 (g)))) ?_
  refine J_ite (fun h2 => ?_) (fun h2 => ?_)
  · refine J_bind fun x3 hx3 => ?_
    refine q_J.step (fun g => j_icmp_t rfl (cc_eq_t h2) (j_aload_n rfl rfl (j_gfl rfl hx3 (j_ldc2 (5146 : Int64) rfl kw_5146 (j_lcmp rfl (g)))))) ?_
    refine J_ite (fun h4 => ?_) (fun h4 => ?_)
    · exact J_some (fun h => j_if_f rfl (lc_ne_f h4) (j_iconst (1 : Int32) rfl k32_1 (j_iret rfl rfl h)))
    refine J_bind fun x5 hx5 => ?_
    refine q_J.step (fun g => j_if_t rfl (lc_ne_t h4) (j_aload_n rfl rfl (j_gfl rfl hx5 (j_ldc2 (6094 : Int64) rfl kw_6094 (j_lcmp rfl (g)))))) ?_
    refine J_ite (fun h6 => ?_) (fun h6 => ?_)
    · exact J_some (fun h => j_if_f rfl (lc_ne_f h6) (j_iconst (2 : Int32) rfl k32_2 (j_iret rfl rfl h)))
    refine J_bind fun x7 hx7 => ?_
    refine q_J.step (fun g => j_if_t rfl (lc_ne_t h6) (j_aload_n rfl rfl (j_gfl rfl hx7 (j_ldc2 (161614 : Int64) rfl kw_161614 (j_lcmp rfl (g)))))) ?_
    refine J_ite (fun h8 => ?_) (fun h8 => ?_)
    · exact J_some (fun h => j_if_f rfl (lc_ne_f h8) (j_iconst (3 : Int32) rfl k32_3 (j_iret rfl rfl h)))
    refine J_bind fun x9 hx9 => ?_
    refine q_J.step (fun g => j_if_t rfl (lc_ne_t h8) (j_aload_n rfl rfl (j_gfl rfl hx9 (j_ldc2 (133743 : Int64) rfl kw_133743 (j_lcmp rfl (g)))))) ?_
    refine J_ite (fun h10 => ?_) (fun h10 => ?_)
    · exact J_some (fun h => j_if_f rfl (lc_ne_f h10) (j_iconst (4 : Int32) rfl k32_4 (j_iret rfl rfl h)))
    refine J_bind fun x11 hx11 => ?_
    refine q_J.step (fun g => j_if_t rfl (lc_ne_t h10) (j_aload_n rfl rfl (j_gfl rfl hx11 (j_ldc2 (158523 : Int64) rfl kw_158523 (j_lcmp rfl (g)))))) ?_
    refine J_ite (fun h12 => ?_) (fun h12 => ?_)
    · exact J_some (fun h => j_if_f rfl (lc_ne_f h12) (j_iconst (5 : Int32) rfl k32_5 (j_iret rfl rfl h)))
    refine J_bind fun x13 hx13 => ?_
    refine q_J.step (fun g => j_if_t rfl (lc_ne_t h12) (j_aload_n rfl rfl (j_gfl rfl hx13 (j_ldc2 (43823245 : Int64) rfl kw_43823245 (j_lcmp rfl (g)))))) ?_
    refine J_ite (fun h14 => ?_) (fun h14 => ?_)
    · exact J_some (fun h => j_if_f rfl (lc_ne_f h14) (j_bipush (6 : Int32) rfl kb_6 (j_iret rfl rfl h)))
    refine J_bind fun x15 hx15 => ?_
    refine q_J.step (fun g => j_if_t rfl (lc_ne_t h14) (j_aload_n rfl rfl (j_gfl rfl hx15 (j_ldc2 (1421140441 : Int64) rfl kw_1421140441 (j_lcmp rfl (g)))))) ?_
    refine J_ite (fun h16 => ?_) (fun h16 => ?_)
    · exact J_some (fun h => j_if_f rfl (lc_ne_f h16) (j_bipush (7 : Int32) rfl kb_7 (j_iret rfl rfl h)))
    refine J_bind fun x17 hx17 => ?_
    refine q_J.step (fun g => j_if_t rfl (lc_ne_t h16) (j_aload_n rfl rfl (j_gfl rfl hx17 (j_ldc2 (453117379 : Int64) rfl kw_453117379 (j_lcmp rfl (g)))))) ?_
    refine J_ite (fun h18 => ?_) (fun h18 => ?_)
    · exact J_some (fun h => j_if_f rfl (lc_ne_f h18) (j_bipush (8 : Int32) rfl kb_8 (j_iret rfl rfl h)))
    refine J_bind fun x19 hx19 => ?_
    refine q_J.step (fun g => j_if_t rfl (lc_ne_t h18) (j_aload_n rfl rfl (j_gfl rfl hx19 (j_ldc2 (385309 : Int64) rfl kw_385309 (j_lcmp rfl (g)))))) ?_
    refine J_ite (fun h20 => ?_) (fun h20 => ?_)
    · exact J_some (fun h => j_if_f rfl (lc_ne_f h20) (j_bipush (9 : Int32) rfl kb_9 (j_iret rfl rfl h)))
    refine J_bind fun x21 hx21 => ?_
    refine q_J.step (fun g => j_if_t rfl (lc_ne_t h20) (j_aload_n rfl rfl (j_gfl rfl hx21 (j_ldc2 (7500624643 : Int64) rfl kw_7500624643 (j_lcmp rfl (g)))))) ?_
    refine J_ite (fun h22 => ?_) (fun h22 => ?_)
    · exact J_some (fun h => j_if_f rfl (lc_ne_f h22) (j_bipush (10 : Int32) rfl kb_10 (j_iret rfl rfl h)))
    refine J_bind fun x23 hx23 => ?_
    refine q_J.step (fun g => j_if_t rfl (lc_ne_t h22) (j_aload_n rfl rfl (j_gfl rfl hx23 (j_ldc2 (8659005332 : Int64) rfl kw_8659005332 (j_lcmp rfl (g)))))) ?_
    refine J_ite (fun h24 => ?_) (fun h24 => ?_)
    · exact J_some (fun h => j_if_f rfl (lc_ne_f h24) (j_bipush (11 : Int32) rfl kb_11 (j_iret rfl rfl h)))
    refine J_bind fun x25 hx25 => ?_
    refine q_J.step (fun g => j_if_t rfl (lc_ne_t h24) (j_aload_n rfl rfl (j_gfl rfl hx25 (j_ldc2 (380651 : Int64) rfl kw_380651 (j_lcmp rfl (g)))))) ?_
    refine J_ite (fun h26 => ?_) (fun h26 => ?_)
    · exact J_some (fun h => j_if_f rfl (lc_ne_f h26) (j_bipush (12 : Int32) rfl kb_12 (j_iret rfl rfl h)))
    refine J_bind fun x27 hx27 => ?_
    refine q_J.step (fun g => j_if_t rfl (lc_ne_t h26) (j_aload_n rfl rfl (j_gfl rfl hx27 (j_ldc2 (1905275 : Int64) rfl kw_1905275 (j_lcmp rfl (g)))))) ?_
    refine J_ite (fun h28 => ?_) (fun h28 => ?_)
    · exact J_some (fun h => j_if_f rfl (lc_ne_f h28) (j_bipush (13 : Int32) rfl kb_13 (j_iret rfl rfl h)))
    exact J_some (fun h => j_if_t rfl (lc_ne_t h28) (j_iconst (0 : Int32) rfl k32_0 (j_iret rfl rfl h)))
  exact J_some (fun h => j_icmp_f rfl (cc_eq_f h2) (j_iconst (0 : Int32) rfl k32_0 (j_iret rfl rfl h)))
theorem t_Mo_fact {fo : Option Nat} {d : Nat} (hd : 1 ≤ d) {v0 : Nat} {σ σ1 : q_H} {r : Int32} (h : f_Mo_fact v0 σ = some (r, σ1)) : q_Rel (q_rf fo) q_Ms d 251 [.ref v0] σ (.inl (some (.int r))) σ1 := by
  obtain ⟨d, rfl⟩ : ∃ d1, d = d1 + 1 := ⟨d - 1, by omega⟩
  exact q_Rel.of rfl rfl (b_Mo_fact hd _ σ _ _ h ⟨rfl, rfl⟩)

set_option maxRecDepth 100000 in
theorem b_Mo_puts {fo : Option Nat} {d : Nat} (hd : 1 ≤ d + 1) {o : q_O} {σ' : q_H} (v0 : Nat) (v1 : Int32) (σ : q_H) : q_J (fun (r : Unit) (σ1 : q_H) => o = .inl none ∧ σ' = σ1) (f_Mo_puts v0 v1 σ) (q_G (q_rf fo) d m_Mo_puts o σ' 0 [some (.ref v0), some (.int v1)] [] σ) := by
  unfold f_Mo_puts
  refine J_bind fun x1 hx1 => ?_
  refine J_bind fun x2 hx2 => ?_
  refine J_bind fun σ3 hσ3 => ?_
  refine J_bind fun x4 hx4 => ?_
  refine J_bind fun σ5 hσ5 => ?_
  exact J_some (fun h => j_aload_n rfl rfl (j_gfr rfl hx1 (j_aload_n rfl rfl (j_gfi rfl hx2 (j_iload_n rfl rfl (j_ias rfl hσ3 (j_aload_n rfl rfl (j_dup rfl rfl (j_gfi rfl hx4 (j_iconst (1 : Int32) rfl k32_1 (j_iadd rfl (j_putf rfl rfl rfl rfl hσ5 (j_vret rfl rfl h)))))))))))))
theorem t_Mo_puts {fo : Option Nat} {d : Nat} (hd : 1 ≤ d) {v0 : Nat} {v1 : Int32} {σ σ1 : q_H} {r : Unit} (h : f_Mo_puts v0 v1 σ = some (r, σ1)) : q_Rel (q_rf fo) q_Ms d 252 [.ref v0, .int v1] σ (.inl none) σ1 := by
  obtain ⟨d, rfl⟩ : ∃ d1, d = d1 + 1 := ⟨d - 1, by omega⟩
  exact q_Rel.of rfl rfl (b_Mo_puts hd _ _ σ _ _ h ⟨rfl, rfl⟩)

set_option maxRecDepth 100000 in
theorem b_Mo_opens {fo : Option Nat} {d : Nat} (hd : 1 ≤ d + 1) {o : q_O} {σ' : q_H} (v0 : Nat) (v1 : Int32) (σ : q_H) : q_J (fun (r : Unit) (σ1 : q_H) => o = .inl none ∧ σ' = σ1) (f_Mo_opens v0 v1 σ) (q_G (q_rf fo) d m_Mo_opens o σ' 0 [some (.ref v0), some (.int v1)] [] σ) := by
  unfold f_Mo_opens
  refine J_bind fun x1 hx1 => ?_
  refine J_bind fun σ2 hσ2 => ?_
  refine J_bind fun x3 hx3 => ?_
  refine J_bind fun σ4 hσ4 => ?_
  refine J_bind fun x5 hx5 => ?_
  refine J_bind fun σ6 hσ6 => ?_
  refine J_bind fun x7 hx7 => ?_
  refine J_bind fun σ8 hσ8 => ?_
  refine J_bind fun x9 hx9 => ?_
  refine J_bind fun σ10 hσ10 => ?_
  exact J_some (fun h => j_aload_n rfl rfl (j_gfr rfl hx1 (j_iload_n rfl rfl (j_iconst (0 : Int32) rfl k32_0 (j_ias rfl hσ2 (j_aload_n rfl rfl (j_gfr rfl hx3 (j_iload_n rfl rfl (j_iconst (0 : Int32) rfl k32_0 (j_ias rfl hσ4 (j_aload_n rfl rfl (j_gfr rfl hx5 (j_iload_n rfl rfl (j_iconst (0 : Int32) rfl k32_0 (j_ias rfl hσ6 (j_aload_n rfl rfl (j_gfr rfl hx7 (j_iload_n rfl rfl (j_bipush (20 : Int32) rfl kb_20 (j_ias rfl hσ8 (j_aload_n rfl rfl (j_gfr rfl hx9 (j_iload_n rfl rfl (j_iconst (0 : Int32) rfl k32_0 (j_ias rfl hσ10 (j_vret rfl rfl h))))))))))))))))))))))))))
theorem t_Mo_opens {fo : Option Nat} {d : Nat} (hd : 1 ≤ d) {v0 : Nat} {v1 : Int32} {σ σ1 : q_H} {r : Unit} (h : f_Mo_opens v0 v1 σ = some (r, σ1)) : q_Rel (q_rf fo) q_Ms d 256 [.ref v0, .int v1] σ (.inl none) σ1 := by
  obtain ⟨d, rfl⟩ : ∃ d1, d = d1 + 1 := ⟨d - 1, by omega⟩
  exact q_Rel.of rfl rfl (b_Mo_opens hd _ _ σ _ _ h ⟨rfl, rfl⟩)

set_option maxRecDepth 100000 in
theorem b_Mo_sums {fo : Option Nat} {d : Nat} (hd : 1 ≤ d + 1) {o : q_O} {σ' : q_H} (v0 : Nat) (v1 : Int32) (σ : q_H) : q_J (fun (r : Unit) (σ1 : q_H) => o = .inl none ∧ σ' = σ1) (f_Mo_sums v0 v1 σ) (q_G (q_rf fo) d m_Mo_sums o σ' 0 [some (.ref v0), some (.int v1)] [] σ) := by
  unfold f_Mo_sums
  refine J_bind fun x1 hx1 => ?_
  refine J_bind fun x2 hx2 => ?_
  refine J_bind fun x3 hx3 => ?_
  refine q_J.step (fun g => j_aload_n rfl rfl (j_gfr rfl hx1 (j_iload_n rfl rfl (j_aload_n rfl rfl (j_gfr rfl hx2 (j_iload_n rfl rfl (j_ial rfl hx3 (j_bipush (21 : Int32) rfl kb_21 (g))))))))) ?_
  refine J_ite (fun h4 => ?_) (fun h4 => ?_)
  · refine J_bind fun x5 hx5 => ?_
    refine J_bind fun x6 hx6 => ?_
    refine J_bind fun x7 hx7 => ?_
    refine J_bind fun x8 hx8 => ?_
    refine J_bind fun σ9 hσ9 => ?_
    refine J_bind fun x10 hx10 => ?_
    refine J_bind fun σ11 hσ11 => ?_
    exact J_some (fun h => j_icmp_f rfl (cc_ne_f h4) (j_aload_n rfl rfl (j_gfr rfl hx5 (j_iload_n rfl rfl (j_ial rfl hx6 (j_aload_n rfl rfl (j_gfr rfl hx7 (j_iload_n rfl rfl (j_ial rfl hx8 (j_isub rfl (j_goto rfl (j_ias rfl hσ9 (j_aload_n rfl rfl (j_gfr rfl hx10 (j_iload_n rfl rfl (j_iconst (0 : Int32) rfl k32_0 (j_ias rfl hσ11 (j_vret rfl rfl h))))))))))))))))))
  refine J_bind fun x12 hx12 => ?_
  refine J_bind fun x13 hx13 => ?_
  refine J_bind fun x14 hx14 => ?_
  refine J_bind fun x15 hx15 => ?_
  refine J_bind fun σ16 hσ16 => ?_
  refine J_bind fun x17 hx17 => ?_
  refine J_bind fun σ18 hσ18 => ?_
  exact J_some (fun h => j_icmp_t rfl (cc_ne_t h4) (j_aload_n rfl rfl (j_gfr rfl hx12 (j_iload_n rfl rfl (j_ial rfl hx13 (j_aload_n rfl rfl (j_gfr rfl hx14 (j_iload_n rfl rfl (j_ial rfl hx15 (j_iadd rfl (j_ias rfl hσ16 (j_aload_n rfl rfl (j_gfr rfl hx17 (j_iload_n rfl rfl (j_iconst (0 : Int32) rfl k32_0 (j_ias rfl hσ18 (j_vret rfl rfl h)))))))))))))))))
theorem t_Mo_sums {fo : Option Nat} {d : Nat} (hd : 1 ≤ d) {v0 : Nat} {v1 : Int32} {σ σ1 : q_H} {r : Unit} (h : f_Mo_sums v0 v1 σ = some (r, σ1)) : q_Rel (q_rf fo) q_Ms d 257 [.ref v0, .int v1] σ (.inl none) σ1 := by
  obtain ⟨d, rfl⟩ : ∃ d1, d = d1 + 1 := ⟨d - 1, by omega⟩
  exact q_Rel.of rfl rfl (b_Mo_sums hd _ _ σ _ _ h ⟨rfl, rfl⟩)

set_option maxRecDepth 100000 in
theorem b_Mo_draws {fo : Option Nat} {d : Nat} (hd : 1 ≤ d + 1) {o : q_O} {σ' : q_H} (v0 : Nat) (v1 : Int32) (σ : q_H) : q_J (fun (r : Int32) (σ1 : q_H) => o = .inl (some (.int r)) ∧ σ' = σ1) (f_Mo_draws v0 v1 σ) (q_G (q_rf fo) d m_Mo_draws o σ' 0 [some (.ref v0), some (.int v1)] [] σ) := by
  unfold f_Mo_draws
  refine J_bind fun x1 hx1 => ?_
  refine J_bind fun σ2 hσ2 => ?_
  refine J_bind fun x3 hx3 => ?_
  refine q_J.step (fun g => j_aload_n rfl rfl (j_aload_n rfl rfl (j_gfl rfl hx1 (j_ldc2 (1103515245 : Int64) rfl kw_1103515245 (j_lmul rfl (j_ldc2 (12345 : Int64) rfl kw_12345 (j_ladd rfl (j_ldc2 (2147483648 : Int64) rfl kw_2147483648 (j_lrem rfl (by decide) (j_putf rfl rfl rfl rfl hσ2 (j_aload_n rfl rfl (j_gfl rfl hx3 (j_ldc2 (65536 : Int64) rfl kw_65536 (j_ldiv rfl (by decide) (g))))))))))))))) ?_
  refine q_J.step (fun g => j_iload_n rfl rfl (j_i2l rfl (g))) ?_
  refine J_ite (fun _ => J_none) (fun h4 => ?_)
  exact J_some (fun h => j_lrem rfl h4 (j_l2i rfl (j_iret rfl rfl h)))
theorem t_Mo_draws {fo : Option Nat} {d : Nat} (hd : 1 ≤ d) {v0 : Nat} {v1 : Int32} {σ σ1 : q_H} {r : Int32} (h : f_Mo_draws v0 v1 σ = some (r, σ1)) : q_Rel (q_rf fo) q_Ms d 266 [.ref v0, .int v1] σ (.inl (some (.int r))) σ1 := by
  obtain ⟨d, rfl⟩ : ∃ d1, d = d1 + 1 := ⟨d - 1, by omega⟩
  exact q_Rel.of rfl rfl (b_Mo_draws hd _ _ σ _ _ h ⟨rfl, rfl⟩)

set_option maxRecDepth 100000 in
theorem b_Mo_isLess {fo : Option Nat} {d : Nat} (hd : 1 ≤ d + 1) {o : q_O} {σ' : q_H} (v0 : Nat) (v1 : Int32) (v2 : Int32) (σ : q_H) : q_J (fun (r : Int32) (σ1 : q_H) => o = .inl (some (.int r)) ∧ σ' = σ1) (f_Mo_isLess v0 v1 v2 σ) (q_G (q_rf fo) d m_Mo_isLess o σ' 0 [some (.ref v0), some (.int v1), some (.int v2)] [] σ) := by
  unfold f_Mo_isLess
  refine J_bind fun x1 hx1 => ?_
  refine J_bind fun x2 hx2 => ?_
  refine J_bind fun x3 hx3 => ?_
  refine J_bind fun x4 hx4 => ?_
  refine J_bind fun x5 hx5 => ?_
  refine J_bind fun x6 hx6 => ?_
  refine J_bind fun x7 hx7 => ?_
  refine J_bind fun x8 hx8 => ?_
  refine q_J.step (fun g => j_aload_n rfl rfl (j_gfr rfl hx1 (j_iload_n rfl rfl (j_ial rfl hx2 (j_aload_n rfl rfl (j_gfr rfl hx3 (j_iload_n rfl rfl (j_ial rfl hx4 (j_imul rfl (j_aload_n rfl rfl (j_gfr rfl hx5 (j_iload_n rfl rfl (j_ial rfl hx6 (j_aload_n rfl rfl (g))))))))))))))) ?_
  refine q_J.step (fun g => j_gfr rfl hx7 (j_iload_n rfl rfl (j_ial rfl hx8 (j_imul rfl (g))))) ?_
  refine J_ite (fun h9 => ?_) (fun h9 => ?_)
  · exact J_some (fun h => j_icmp_f rfl (cc_ge_f h9) (j_iconst (1 : Int32) rfl k32_1 (j_goto rfl (j_iret rfl (q_zr (Or.inr rfl)) h))))
  exact J_some (fun h => j_icmp_t rfl (cc_ge_t h9) (j_iconst (0 : Int32) rfl k32_0 (j_iret rfl (q_zr (Or.inl rfl)) h)))
theorem t_Mo_isLess {fo : Option Nat} {d : Nat} (hd : 1 ≤ d) {v0 : Nat} {v1 : Int32} {v2 : Int32} {σ σ1 : q_H} {r : Int32} (h : f_Mo_isLess v0 v1 v2 σ = some (r, σ1)) : q_Rel (q_rf fo) q_Ms d 271 [.ref v0, .int v1, .int v2] σ (.inl (some (.int r))) σ1 := by
  obtain ⟨d, rfl⟩ : ∃ d1, d = d1 + 1 := ⟨d - 1, by omega⟩
  exact q_Rel.of rfl rfl (b_Mo_isLess hd _ _ _ σ _ _ h ⟨rfl, rfl⟩)

set_option maxRecDepth 100000 in
theorem l_Mo_takesBack_L2 {fo : Option Nat} {d : Nat} (hd : 1 ≤ d + 1) {o : q_O} {σ' : q_H} {E : (Unit) → q_H → Prop} (v0 : Nat) (v1 : Int32) (hX : ∀ (t : Unit) σ1, E (t) σ1 → q_G (q_rf fo) d m_Mo_takesBack o σ' 31 [some (.ref v0), some (.int v1), none, none] [] σ1)  : ∀ (n : Nat) (v2 : Int32) (σ : q_H), q_J E (f_Mo_takesBack_L2 v0 v1 n v2 σ) (q_G (q_rf fo) d m_Mo_takesBack o σ' 2 [some (.ref v0), some (.int v1), some (.int v2), none] [] σ)
  | 0, v2, σ => J_none
  | n + 1, v2, σ => by
    unfold f_Mo_takesBack_L2
    refine q_J.step (fun g => j_iload_n rfl rfl (j_bipush (6 : Int32) rfl kb_6 (g))) ?_
    refine J_ite (fun h1 => ?_) (fun h1 => ?_)
    · refine J_bind fun x2 hx2 => ?_
      refine J_bind fun x3 hx3 => ?_
      refine J_bind fun x4 hx4 => ?_
      refine J_bind fun σ5 hσ5 => ?_
      exact q_J.step (fun g => j_icmp_f rfl (cc_ge_f h1) (j_aload_n rfl rfl (j_gfr rfl hx2 (j_iload_n rfl rfl (j_aload_n rfl rfl (j_gfr rfl hx3 (j_bipush (6 : Int32) rfl kb_6 (j_iload_n rfl rfl (j_imul rfl (j_iload_n rfl rfl (j_iadd rfl (j_ial rfl hx4 (j_ias rfl hσ5 (j_iinc [some (.ref v0), some (.int v1), some (.int (v2 + (1 : Int32))), none] (v2 + (1 : Int32)) rfl rfl (by rw [k32_1]) (Or.inr rfl) rfl (j_goto rfl (g)))))))))))))))) (l_Mo_takesBack_L2 hd v0 v1 hX n (v2 + (1 : Int32)) σ5)
    exact J_some (fun h => j_icmp_t rfl (cc_ge_t h1) (j_weak (l := [some (.ref v0), some (.int v1), none, none]) (And.intro (Or.inr rfl) (And.intro (Or.inr rfl) (And.intro (Or.inl rfl) (And.intro (Or.inr rfl) True.intro)))) (hX _ _ h)))

set_option maxRecDepth 100000 in
theorem l_Mo_takesBack_L33 {fo : Option Nat} {d : Nat} (hd : 1 ≤ d + 1) {o : q_O} {σ' : q_H} {E : (Unit) → q_H → Prop} (v0 : Nat) (v1 : Int32) (hX : ∀ (t : Unit) σ1, E (t) σ1 → q_G (q_rf fo) d m_Mo_takesBack o σ' 156 [some (.ref v0), some (.int v1), none, none] [] σ1)  : ∀ (n : Nat) (v2 : Int32) (σ : q_H), q_J E (f_Mo_takesBack_L33 v0 v1 n v2 σ) (q_G (q_rf fo) d m_Mo_takesBack o σ' 33 [some (.ref v0), some (.int v1), some (.int v2), none] [] σ)
  | 0, v2, σ => J_none
  | n + 1, v2, σ => by
    unfold f_Mo_takesBack_L33
    refine q_J.step (fun g => j_iload_n rfl rfl (j_bipush (24 : Int32) rfl kb_24 (g))) ?_
    refine J_ite (fun h1 => ?_) (fun h1 => ?_)
    · refine J_bind fun x2 hx2 => ?_
      refine J_bind fun x3 hx3 => ?_
      refine J_bind fun x4 hx4 => ?_
      refine q_J.step (fun g => j_icmp_f rfl (cc_ge_f h1) (j_sipush (144 : Int32) rfl ks_144 (j_iload_n rfl rfl (j_imul rfl (j_bipush (6 : Int32) rfl kb_6 (j_iload_n rfl rfl (j_imul rfl (j_iadd rfl (j_istore_n [some (.ref v0), some (.int v1), some (.int v2), some (.int (((144 : Int32) * v1) + ((6 : Int32) * v2)))] rfl rfl (Or.inr rfl) rfl (j_aload_n rfl rfl (j_gfr rfl hx2 (j_iload_n rfl rfl (j_aload_n rfl rfl (j_gfr rfl hx3 (g))))))))))))))) ?_
      refine q_J.step (fun g => j_iload_n rfl rfl (j_ial rfl hx4 (j_iconst (1 : Int32) rfl k32_1 (g)))) ?_
      refine J_sq (fun (t6 : Int32) (σ7 : q_H) => q_G (q_rf fo) d m_Mo_takesBack o σ' 70 [some (.ref v0), some (.int v1), some (.int v2), some (.int (((144 : Int32) * v1) + ((6 : Int32) * v2)))] [.int t6, .int v2, .ref x2] σ7) ?_ (fun t6 σ7 => ?_)
      · refine J_ite (fun h5 => ?_) (fun h5 => ?_)
        · exact J_some (fun h => j_icmp_f rfl (cc_ne_f h5) (j_iconst (1 : Int32) rfl k32_1 (j_goto rfl (h))))
        exact J_some (fun h => j_icmp_t rfl (cc_ne_t h5) (j_iconst (0 : Int32) rfl k32_0 (h)))
      refine J_ite (fun _ => J_none) (fun h9 => ?_)
      refine J_bind fun σ8 hσ8 => ?_
      refine J_bind fun x10 hx10 => ?_
      refine J_bind fun x11 hx11 => ?_
      refine J_bind fun x12 hx12 => ?_
      refine q_J.step (fun g => j_bas rfl (Decidable.not_not.mp h9) hσ8 (j_aload_n rfl rfl (j_gfr rfl hx10 (j_iload_n rfl rfl (j_aload_n rfl rfl (j_gfr rfl hx11 (j_iload_n rfl rfl (j_iconst (1 : Int32) rfl k32_1 (j_iadd rfl (j_ial rfl hx12 (j_iconst (1 : Int32) rfl k32_1 (g)))))))))))) ?_
      refine J_sq (fun (t14 : Int32) (σ15 : q_H) => q_G (q_rf fo) d m_Mo_takesBack o σ' 93 [some (.ref v0), some (.int v1), some (.int v2), some (.int (((144 : Int32) * v1) + ((6 : Int32) * v2)))] [.int t14, .int v2, .ref x10] σ15) ?_ (fun t14 σ15 => ?_)
      · refine J_ite (fun h13 => ?_) (fun h13 => ?_)
        · exact J_some (fun h => j_icmp_f rfl (cc_ne_f h13) (j_iconst (1 : Int32) rfl k32_1 (j_goto rfl (h))))
        exact J_some (fun h => j_icmp_t rfl (cc_ne_t h13) (j_iconst (0 : Int32) rfl k32_0 (h)))
      refine J_ite (fun _ => J_none) (fun h17 => ?_)
      refine J_bind fun σ16 hσ16 => ?_
      refine J_bind fun x18 hx18 => ?_
      refine J_bind fun x19 hx19 => ?_
      refine J_bind fun x20 hx20 => ?_
      refine J_bind fun σ21 hσ21 => ?_
      refine J_bind fun x22 hx22 => ?_
      refine J_bind fun x23 hx23 => ?_
      refine J_bind fun x24 hx24 => ?_
      refine J_bind fun σ25 hσ25 => ?_
      refine J_bind fun x26 hx26 => ?_
      refine J_bind fun x27 hx27 => ?_
      refine J_bind fun x28 hx28 => ?_
      refine J_bind fun σ29 hσ29 => ?_
      refine J_bind fun x30 hx30 => ?_
      refine J_bind fun x31 hx31 => ?_
      refine J_bind fun x32 hx32 => ?_
      refine J_bind fun σ33 hσ33 => ?_
      exact q_J.step (fun g => j_bas rfl (Decidable.not_not.mp h17) hσ16 (j_aload_n rfl rfl (j_gfr rfl hx18 (j_iload_n rfl rfl (j_aload_n rfl rfl (j_gfr rfl hx19 (j_iload_n rfl rfl (j_iconst (2 : Int32) rfl k32_2 (j_iadd rfl (j_ial rfl hx20 (j_ias rfl hσ21 (j_aload_n rfl rfl (j_gfr rfl hx22 (j_iload_n rfl rfl (j_aload_n rfl rfl (j_gfr rfl hx23 (j_iload_n rfl rfl (j_iconst (3 : Int32) rfl k32_3 (j_iadd rfl (j_ial rfl hx24 (j_ias rfl hσ25 (j_aload_n rfl rfl (j_gfr rfl hx26 (j_iload_n rfl rfl (j_aload_n rfl rfl (j_gfr rfl hx27 (j_iload_n rfl rfl (j_iconst (4 : Int32) rfl k32_4 (j_iadd rfl (j_ial rfl hx28 (j_ias rfl hσ29 (j_aload_n rfl rfl (j_gfr rfl hx30 (j_iload_n rfl rfl (j_aload_n rfl rfl (j_gfr rfl hx31 (j_iload_n rfl rfl (j_iconst (5 : Int32) rfl k32_5 (j_iadd rfl (j_ial rfl hx32 (j_ias rfl hσ33 (j_iinc [some (.ref v0), some (.int v1), some (.int (v2 + (1 : Int32))), some (.int (((144 : Int32) * v1) + ((6 : Int32) * v2)))] (v2 + (1 : Int32)) rfl rfl (by rw [k32_1]) (Or.inr rfl) rfl (j_goto rfl (j_weak (l := [some (.ref v0), some (.int v1), some (.int (v2 + (1 : Int32))), none]) (And.intro (Or.inr rfl) (And.intro (Or.inr rfl) (And.intro (Or.inr rfl) (And.intro (Or.inl rfl) True.intro)))) (g))))))))))))))))))))))))))))))))))))))))))))) (l_Mo_takesBack_L33 hd v0 v1 hX n (v2 + (1 : Int32)) σ33)
    exact J_some (fun h => j_icmp_t rfl (cc_ge_t h1) (j_weak (l := [some (.ref v0), some (.int v1), none, none]) (And.intro (Or.inr rfl) (And.intro (Or.inr rfl) (And.intro (Or.inl rfl) (And.intro (Or.inr rfl) True.intro)))) (hX _ _ h)))

set_option maxRecDepth 100000 in
theorem l_Mo_takesBack_L158 {fo : Option Nat} {d : Nat} (hd : 1 ≤ d + 1) {o : q_O} {σ' : q_H} {E : (Unit) → q_H → Prop} (v0 : Nat) (v1 : Int32) (hX : ∀ (t : Unit) σ1, E (t) σ1 → q_G (q_rf fo) d m_Mo_takesBack o σ' 313 [none, none, none, none] [] σ1)  : ∀ (n : Nat) (v2 : Int32) (σ : q_H), q_J E (f_Mo_takesBack_L158 v0 v1 n v2 σ) (q_G (q_rf fo) d m_Mo_takesBack o σ' 158 [some (.ref v0), some (.int v1), some (.int v2), none] [] σ)
  | 0, v2, σ => J_none
  | n + 1, v2, σ => by
    unfold f_Mo_takesBack_L158
    refine q_J.step (fun g => j_iload_n rfl rfl (j_sipush (288 : Int32) rfl ks_288 (g))) ?_
    refine J_ite (fun h1 => ?_) (fun h1 => ?_)
    · refine J_bind fun x2 hx2 => ?_
      refine J_bind fun x3 hx3 => ?_
      refine J_bind fun x4 hx4 => ?_
      refine J_bind fun σ5 hσ5 => ?_
      refine J_bind fun x6 hx6 => ?_
      refine J_bind fun x7 hx7 => ?_
      refine J_bind fun x8 hx8 => ?_
      refine J_bind fun σ9 hσ9 => ?_
      refine J_bind fun x10 hx10 => ?_
      refine J_bind fun x11 hx11 => ?_
      refine J_bind fun x12 hx12 => ?_
      refine J_bind fun σ13 hσ13 => ?_
      refine J_bind fun x14 hx14 => ?_
      refine J_bind fun x15 hx15 => ?_
      refine J_bind fun x16 hx16 => ?_
      refine J_bind fun σ17 hσ17 => ?_
      refine J_bind fun x18 hx18 => ?_
      refine J_bind fun x19 hx19 => ?_
      refine J_bind fun x20 hx20 => ?_
      refine J_bind fun σ21 hσ21 => ?_
      refine J_bind fun x22 hx22 => ?_
      refine J_bind fun x23 hx23 => ?_
      refine J_bind fun x24 hx24 => ?_
      refine J_bind fun σ25 hσ25 => ?_
      refine J_bind fun x26 hx26 => ?_
      refine J_bind fun x27 hx27 => ?_
      refine J_bind fun x28 hx28 => ?_
      refine J_bind fun σ29 hσ29 => ?_
      refine J_bind fun x30 hx30 => ?_
      refine J_bind fun x31 hx31 => ?_
      refine J_bind fun x32 hx32 => ?_
      refine J_bind fun σ33 hσ33 => ?_
      exact q_J.step (fun g => j_icmp_f rfl (cc_ge_f h1) (j_sipush (1440 : Int32) rfl ks_1440 (j_iload_n rfl rfl (j_imul rfl (j_iconst (5 : Int32) rfl k32_5 (j_iload_n rfl rfl (j_imul rfl (j_iadd rfl (j_istore_n [some (.ref v0), some (.int v1), some (.int v2), some (.int (((1440 : Int32) * v1) + ((5 : Int32) * v2)))] rfl rfl (Or.inr rfl) rfl (j_aload_n rfl rfl (j_gfr rfl hx2 (j_iload_n rfl rfl (j_aload_n rfl rfl (j_gfr rfl hx3 (j_iload_n rfl rfl (j_ial rfl hx4 (j_ias rfl hσ5 (j_aload_n rfl rfl (j_gfr rfl hx6 (j_iload_n rfl rfl (j_aload_n rfl rfl (j_gfr rfl hx7 (j_iload_n rfl rfl (j_iconst (1 : Int32) rfl k32_1 (j_iadd rfl (j_ial rfl hx8 (j_ias rfl hσ9 (j_aload_n rfl rfl (j_gfr rfl hx10 (j_iload_n rfl rfl (j_aload_n rfl rfl (j_gfr rfl hx11 (j_iload_n rfl rfl (j_iconst (2 : Int32) rfl k32_2 (j_iadd rfl (j_ial rfl hx12 (j_ias rfl hσ13 (j_aload_n rfl rfl (j_gfr rfl hx14 (j_iload_n rfl rfl (j_aload_n rfl rfl (j_gfr rfl hx15 (j_iload_n rfl rfl (j_iconst (3 : Int32) rfl k32_3 (j_iadd rfl (j_ial rfl hx16 (j_ias rfl hσ17 (j_aload_n rfl rfl (j_gfr rfl hx18 (j_iload_n rfl rfl (j_aload_n rfl rfl (j_gfr rfl hx19 (j_iload_n rfl rfl (j_iconst (4 : Int32) rfl k32_4 (j_iadd rfl (j_ial rfl hx20 (j_ias rfl hσ21 (j_aload_n rfl rfl (j_gfr rfl hx22 (j_iload_n rfl rfl (j_aload_n rfl rfl (j_gfr rfl hx23 (j_sipush (864 : Int32) rfl ks_864 (j_iload_n rfl rfl (j_imul rfl (j_iconst (3 : Int32) rfl k32_3 (j_iload_n rfl rfl (j_imul rfl (j_iadd rfl (j_lal rfl hx24 (j_las rfl hσ25 (j_aload_n rfl rfl (j_gfr rfl hx26 (j_iload_n rfl rfl (j_aload_n rfl rfl (j_gfr rfl hx27 (j_sipush (864 : Int32) rfl ks_864 (j_iload_n rfl rfl (j_imul rfl (j_iconst (3 : Int32) rfl k32_3 (j_iload_n rfl rfl (j_imul rfl (j_iadd rfl (j_iconst (1 : Int32) rfl k32_1 (j_iadd rfl (j_lal rfl hx28 (j_las rfl hσ29 (j_aload_n rfl rfl (j_gfr rfl hx30 (j_iload_n rfl rfl (j_aload_n rfl rfl (j_gfr rfl hx31 (j_sipush (864 : Int32) rfl ks_864 (j_iload_n rfl rfl (j_imul rfl (j_iconst (3 : Int32) rfl k32_3 (j_iload_n rfl rfl (j_imul rfl (j_iadd rfl (j_iconst (2 : Int32) rfl k32_2 (j_iadd rfl (j_lal rfl hx32 (j_las rfl hσ33 (j_iinc [some (.ref v0), some (.int v1), some (.int (v2 + (1 : Int32))), some (.int (((1440 : Int32) * v1) + ((5 : Int32) * v2)))] (v2 + (1 : Int32)) rfl rfl (by rw [k32_1]) (Or.inr rfl) rfl (j_goto rfl (j_weak (l := [some (.ref v0), some (.int v1), some (.int (v2 + (1 : Int32))), none]) (And.intro (Or.inr rfl) (And.intro (Or.inr rfl) (And.intro (Or.inr rfl) (And.intro (Or.inl rfl) True.intro)))) (g))))))))))))))))))))))))))))))))))))))))))))))))))))))))))))))))))))))))))))))))))))))))))))))))))))))))))) (l_Mo_takesBack_L158 hd v0 v1 hX n (v2 + (1 : Int32)) σ33)
    exact J_some (fun h => j_icmp_t rfl (cc_ge_t h1) (j_weak (l := [none, none, none, none]) (And.intro (Or.inl rfl) (And.intro (Or.inl rfl) (And.intro (Or.inl rfl) (And.intro (Or.inr rfl) True.intro)))) (hX _ _ h)))

set_option maxRecDepth 100000 in
theorem b_Mo_takesBack {fo : Option Nat} {d : Nat} (hd : 1 ≤ d + 1) {o : q_O} {σ' : q_H} (v0 : Nat) (v1 : Int32) (σ : q_H) : q_J (fun (r : Unit) (σ1 : q_H) => o = .inl none ∧ σ' = σ1) (f_Mo_takesBack v0 v1 σ) (q_G (q_rf fo) d m_Mo_takesBack o σ' 0 [some (.ref v0), some (.int v1), none, none] [] σ) := by
  unfold f_Mo_takesBack
  refine J_sq (fun (t1 : Unit) (σ2 : q_H) => q_G (q_rf fo) d m_Mo_takesBack o σ' 31 [some (.ref v0), some (.int v1), none, none] [] σ2) (q_J.step (fun g => j_iconst (0 : Int32) rfl k32_0 (j_istore_n [some (.ref v0), some (.int v1), some (.int (0 : Int32)), none] rfl rfl (Or.inr rfl) rfl (g))) (l_Mo_takesBack_L2 hd v0 v1 (fun _ _ h => h) q_FU (0 : Int32) σ)) (fun t1 σ2 => ?_)
  refine J_sq (fun (t3 : Unit) (σ4 : q_H) => q_G (q_rf fo) d m_Mo_takesBack o σ' 156 [some (.ref v0), some (.int v1), none, none] [] σ4) (q_J.step (fun g => j_iconst (0 : Int32) rfl k32_0 (j_istore_n [some (.ref v0), some (.int v1), some (.int (0 : Int32)), none] rfl rfl (Or.inr rfl) rfl (g))) (l_Mo_takesBack_L33 hd v0 v1 (fun _ _ h => h) q_FU (0 : Int32) σ2)) (fun t3 σ4 => ?_)
  refine J_sq (fun (t5 : Unit) (σ6 : q_H) => q_G (q_rf fo) d m_Mo_takesBack o σ' 313 [none, none, none, none] [] σ6) (q_J.step (fun g => j_iconst (0 : Int32) rfl k32_0 (j_istore_n [some (.ref v0), some (.int v1), some (.int (0 : Int32)), none] rfl rfl (Or.inr rfl) rfl (g))) (l_Mo_takesBack_L158 hd v0 v1 (fun _ _ h => h) q_FU (0 : Int32) σ4)) (fun t5 σ6 => ?_)
  exact J_some (fun h => j_vret rfl rfl h)
theorem t_Mo_takesBack {fo : Option Nat} {d : Nat} (hd : 1 ≤ d) {v0 : Nat} {v1 : Int32} {σ σ1 : q_H} {r : Unit} (h : f_Mo_takesBack v0 v1 σ = some (r, σ1)) : q_Rel (q_rf fo) q_Ms d 276 [.ref v0, .int v1] σ (.inl none) σ1 := by
  obtain ⟨d, rfl⟩ : ∃ d1, d = d1 + 1 := ⟨d - 1, by omega⟩
  exact q_Rel.of rfl rfl (b_Mo_takesBack hd _ _ σ _ _ h ⟨rfl, rfl⟩)

set_option maxRecDepth 100000 in
theorem l_Mo_keeps_L2 {fo : Option Nat} {d : Nat} (hd : 1 ≤ d + 1) {o : q_O} {σ' : q_H} {E : (Unit) → q_H → Prop} (v0 : Nat) (v1 : Int32) (hX : ∀ (t : Unit) σ1, E (t) σ1 → q_G (q_rf fo) d m_Mo_keeps o σ' 31 [some (.ref v0), some (.int v1), none, none] [] σ1)  : ∀ (n : Nat) (v2 : Int32) (σ : q_H), q_J E (f_Mo_keeps_L2 v0 v1 n v2 σ) (q_G (q_rf fo) d m_Mo_keeps o σ' 2 [some (.ref v0), some (.int v1), some (.int v2), none] [] σ)
  | 0, v2, σ => J_none
  | n + 1, v2, σ => by
    unfold f_Mo_keeps_L2
    refine q_J.step (fun g => j_iload_n rfl rfl (j_bipush (6 : Int32) rfl kb_6 (g))) ?_
    refine J_ite (fun h1 => ?_) (fun h1 => ?_)
    · refine J_bind fun x2 hx2 => ?_
      refine J_bind fun x3 hx3 => ?_
      refine J_bind fun x4 hx4 => ?_
      refine J_bind fun σ5 hσ5 => ?_
      exact q_J.step (fun g => j_icmp_f rfl (cc_ge_f h1) (j_aload_n rfl rfl (j_gfr rfl hx2 (j_bipush (6 : Int32) rfl kb_6 (j_iload_n rfl rfl (j_imul rfl (j_iload_n rfl rfl (j_iadd rfl (j_aload_n rfl rfl (j_gfr rfl hx3 (j_iload_n rfl rfl (j_ial rfl hx4 (j_ias rfl hσ5 (j_iinc [some (.ref v0), some (.int v1), some (.int (v2 + (1 : Int32))), none] (v2 + (1 : Int32)) rfl rfl (by rw [k32_1]) (Or.inr rfl) rfl (j_goto rfl (g)))))))))))))))) (l_Mo_keeps_L2 hd v0 v1 hX n (v2 + (1 : Int32)) σ5)
    exact J_some (fun h => j_icmp_t rfl (cc_ge_t h1) (j_weak (l := [some (.ref v0), some (.int v1), none, none]) (And.intro (Or.inr rfl) (And.intro (Or.inr rfl) (And.intro (Or.inl rfl) (And.intro (Or.inr rfl) True.intro)))) (hX _ _ h)))

set_option maxRecDepth 100000 in
theorem l_Mo_keeps_L33 {fo : Option Nat} {d : Nat} (hd : 1 ≤ d + 1) {o : q_O} {σ' : q_H} {E : (Unit) → q_H → Prop} (v0 : Nat) (v1 : Int32) (hX : ∀ (t : Unit) σ1, E (t) σ1 → q_G (q_rf fo) d m_Mo_keeps o σ' 154 [some (.ref v0), some (.int v1), none, none] [] σ1)  : ∀ (n : Nat) (v2 : Int32) (σ : q_H), q_J E (f_Mo_keeps_L33 v0 v1 n v2 σ) (q_G (q_rf fo) d m_Mo_keeps o σ' 33 [some (.ref v0), some (.int v1), some (.int v2), none] [] σ)
  | 0, v2, σ => J_none
  | n + 1, v2, σ => by
    unfold f_Mo_keeps_L33
    refine q_J.step (fun g => j_iload_n rfl rfl (j_bipush (24 : Int32) rfl kb_24 (g))) ?_
    refine J_ite (fun h1 => ?_) (fun h1 => ?_)
    · refine J_bind fun x2 hx2 => ?_
      refine J_bind fun x3 hx3 => ?_
      refine J_bind fun x4 hx4 => ?_
      refine q_J.step (fun g => j_icmp_f rfl (cc_ge_f h1) (j_sipush (144 : Int32) rfl ks_144 (j_iload_n rfl rfl (j_imul rfl (j_bipush (6 : Int32) rfl kb_6 (j_iload_n rfl rfl (j_imul rfl (j_iadd rfl (j_istore_n [some (.ref v0), some (.int v1), some (.int v2), some (.int (((144 : Int32) * v1) + ((6 : Int32) * v2)))] rfl rfl (Or.inr rfl) rfl (j_aload_n rfl rfl (j_gfr rfl hx2 (j_iload_n rfl rfl (j_aload_n rfl rfl (j_gfr rfl hx3 (g))))))))))))))) ?_
      refine q_J.step (fun g => j_iload_n rfl rfl (j_bal rfl rfl hx4 (g))) ?_
      refine J_sq (fun (t6 : Int32) (σ7 : q_H) => q_G (q_rf fo) d m_Mo_keeps o σ' 69 [some (.ref v0), some (.int v1), some (.int v2), some (.int (((144 : Int32) * v1) + ((6 : Int32) * v2)))] [.int t6, .int (((144 : Int32) * v1) + ((6 : Int32) * v2)), .ref x2] σ7) ?_ (fun t6 σ7 => ?_)
      · refine J_ite (fun h5 => ?_) (fun h5 => ?_)
        · exact J_some (fun h => j_if_t rfl (cc_eq_t h5) (j_iconst (0 : Int32) rfl k32_0 (h)))
        exact J_some (fun h => j_if_f rfl (cc_eq_f h5) (j_iconst (1 : Int32) rfl k32_1 (j_goto rfl (h))))
      refine J_bind fun σ8 hσ8 => ?_
      refine J_bind fun x9 hx9 => ?_
      refine J_bind fun x10 hx10 => ?_
      refine J_bind fun x11 hx11 => ?_
      refine q_J.step (fun g => j_ias rfl hσ8 (j_aload_n rfl rfl (j_gfr rfl hx9 (j_iload_n rfl rfl (j_iconst (1 : Int32) rfl k32_1 (j_iadd rfl (j_aload_n rfl rfl (j_gfr rfl hx10 (j_iload_n rfl rfl (j_bal rfl rfl hx11 (g))))))))))) ?_
      refine J_sq (fun (t13 : Int32) (σ14 : q_H) => q_G (q_rf fo) d m_Mo_keeps o σ' 91 [some (.ref v0), some (.int v1), some (.int v2), some (.int (((144 : Int32) * v1) + ((6 : Int32) * v2)))] [.int t13, .int ((((144 : Int32) * v1) + ((6 : Int32) * v2)) + (1 : Int32)), .ref x9] σ14) ?_ (fun t13 σ14 => ?_)
      · refine J_ite (fun h12 => ?_) (fun h12 => ?_)
        · exact J_some (fun h => j_if_t rfl (cc_eq_t h12) (j_iconst (0 : Int32) rfl k32_0 (h)))
        exact J_some (fun h => j_if_f rfl (cc_eq_f h12) (j_iconst (1 : Int32) rfl k32_1 (j_goto rfl (h))))
      refine J_bind fun σ15 hσ15 => ?_
      refine J_bind fun x16 hx16 => ?_
      refine J_bind fun x17 hx17 => ?_
      refine J_bind fun x18 hx18 => ?_
      refine J_bind fun σ19 hσ19 => ?_
      refine J_bind fun x20 hx20 => ?_
      refine J_bind fun x21 hx21 => ?_
      refine J_bind fun x22 hx22 => ?_
      refine J_bind fun σ23 hσ23 => ?_
      refine J_bind fun x24 hx24 => ?_
      refine J_bind fun x25 hx25 => ?_
      refine J_bind fun x26 hx26 => ?_
      refine J_bind fun σ27 hσ27 => ?_
      refine J_bind fun x28 hx28 => ?_
      refine J_bind fun x29 hx29 => ?_
      refine J_bind fun x30 hx30 => ?_
      refine J_bind fun σ31 hσ31 => ?_
      exact q_J.step (fun g => j_ias rfl hσ15 (j_aload_n rfl rfl (j_gfr rfl hx16 (j_iload_n rfl rfl (j_iconst (2 : Int32) rfl k32_2 (j_iadd rfl (j_aload_n rfl rfl (j_gfr rfl hx17 (j_iload_n rfl rfl (j_ial rfl hx18 (j_ias rfl hσ19 (j_aload_n rfl rfl (j_gfr rfl hx20 (j_iload_n rfl rfl (j_iconst (3 : Int32) rfl k32_3 (j_iadd rfl (j_aload_n rfl rfl (j_gfr rfl hx21 (j_iload_n rfl rfl (j_ial rfl hx22 (j_ias rfl hσ23 (j_aload_n rfl rfl (j_gfr rfl hx24 (j_iload_n rfl rfl (j_iconst (4 : Int32) rfl k32_4 (j_iadd rfl (j_aload_n rfl rfl (j_gfr rfl hx25 (j_iload_n rfl rfl (j_ial rfl hx26 (j_ias rfl hσ27 (j_aload_n rfl rfl (j_gfr rfl hx28 (j_iload_n rfl rfl (j_iconst (5 : Int32) rfl k32_5 (j_iadd rfl (j_aload_n rfl rfl (j_gfr rfl hx29 (j_iload_n rfl rfl (j_ial rfl hx30 (j_ias rfl hσ31 (j_iinc [some (.ref v0), some (.int v1), some (.int (v2 + (1 : Int32))), some (.int (((144 : Int32) * v1) + ((6 : Int32) * v2)))] (v2 + (1 : Int32)) rfl rfl (by rw [k32_1]) (Or.inr rfl) rfl (j_goto rfl (j_weak (l := [some (.ref v0), some (.int v1), some (.int (v2 + (1 : Int32))), none]) (And.intro (Or.inr rfl) (And.intro (Or.inr rfl) (And.intro (Or.inr rfl) (And.intro (Or.inl rfl) True.intro)))) (g))))))))))))))))))))))))))))))))))))))))))))) (l_Mo_keeps_L33 hd v0 v1 hX n (v2 + (1 : Int32)) σ31)
    exact J_some (fun h => j_icmp_t rfl (cc_ge_t h1) (j_weak (l := [some (.ref v0), some (.int v1), none, none]) (And.intro (Or.inr rfl) (And.intro (Or.inr rfl) (And.intro (Or.inl rfl) (And.intro (Or.inr rfl) True.intro)))) (hX _ _ h)))

set_option maxRecDepth 100000 in
theorem l_Mo_keeps_L156 {fo : Option Nat} {d : Nat} (hd : 1 ≤ d + 1) {o : q_O} {σ' : q_H} {E : (Unit) → q_H → Prop} (v0 : Nat) (v1 : Int32) (hX : ∀ (t : Unit) σ1, E (t) σ1 → q_G (q_rf fo) d m_Mo_keeps o σ' 311 [none, none, none, none] [] σ1)  : ∀ (n : Nat) (v2 : Int32) (σ : q_H), q_J E (f_Mo_keeps_L156 v0 v1 n v2 σ) (q_G (q_rf fo) d m_Mo_keeps o σ' 156 [some (.ref v0), some (.int v1), some (.int v2), none] [] σ)
  | 0, v2, σ => J_none
  | n + 1, v2, σ => by
    unfold f_Mo_keeps_L156
    refine q_J.step (fun g => j_iload_n rfl rfl (j_sipush (288 : Int32) rfl ks_288 (g))) ?_
    refine J_ite (fun h1 => ?_) (fun h1 => ?_)
    · refine J_bind fun x2 hx2 => ?_
      refine J_bind fun x3 hx3 => ?_
      refine J_bind fun x4 hx4 => ?_
      refine J_bind fun σ5 hσ5 => ?_
      refine J_bind fun x6 hx6 => ?_
      refine J_bind fun x7 hx7 => ?_
      refine J_bind fun x8 hx8 => ?_
      refine J_bind fun σ9 hσ9 => ?_
      refine J_bind fun x10 hx10 => ?_
      refine J_bind fun x11 hx11 => ?_
      refine J_bind fun x12 hx12 => ?_
      refine J_bind fun σ13 hσ13 => ?_
      refine J_bind fun x14 hx14 => ?_
      refine J_bind fun x15 hx15 => ?_
      refine J_bind fun x16 hx16 => ?_
      refine J_bind fun σ17 hσ17 => ?_
      refine J_bind fun x18 hx18 => ?_
      refine J_bind fun x19 hx19 => ?_
      refine J_bind fun x20 hx20 => ?_
      refine J_bind fun σ21 hσ21 => ?_
      refine J_bind fun x22 hx22 => ?_
      refine J_bind fun x23 hx23 => ?_
      refine J_bind fun x24 hx24 => ?_
      refine J_bind fun σ25 hσ25 => ?_
      refine J_bind fun x26 hx26 => ?_
      refine J_bind fun x27 hx27 => ?_
      refine J_bind fun x28 hx28 => ?_
      refine J_bind fun σ29 hσ29 => ?_
      refine J_bind fun x30 hx30 => ?_
      refine J_bind fun x31 hx31 => ?_
      refine J_bind fun x32 hx32 => ?_
      refine J_bind fun σ33 hσ33 => ?_
      exact q_J.step (fun g => j_icmp_f rfl (cc_ge_f h1) (j_sipush (1440 : Int32) rfl ks_1440 (j_iload_n rfl rfl (j_imul rfl (j_iconst (5 : Int32) rfl k32_5 (j_iload_n rfl rfl (j_imul rfl (j_iadd rfl (j_istore_n [some (.ref v0), some (.int v1), some (.int v2), some (.int (((1440 : Int32) * v1) + ((5 : Int32) * v2)))] rfl rfl (Or.inr rfl) rfl (j_aload_n rfl rfl (j_gfr rfl hx2 (j_iload_n rfl rfl (j_aload_n rfl rfl (j_gfr rfl hx3 (j_iload_n rfl rfl (j_ial rfl hx4 (j_ias rfl hσ5 (j_aload_n rfl rfl (j_gfr rfl hx6 (j_iload_n rfl rfl (j_iconst (1 : Int32) rfl k32_1 (j_iadd rfl (j_aload_n rfl rfl (j_gfr rfl hx7 (j_iload_n rfl rfl (j_ial rfl hx8 (j_ias rfl hσ9 (j_aload_n rfl rfl (j_gfr rfl hx10 (j_iload_n rfl rfl (j_iconst (2 : Int32) rfl k32_2 (j_iadd rfl (j_aload_n rfl rfl (j_gfr rfl hx11 (j_iload_n rfl rfl (j_ial rfl hx12 (j_ias rfl hσ13 (j_aload_n rfl rfl (j_gfr rfl hx14 (j_iload_n rfl rfl (j_iconst (3 : Int32) rfl k32_3 (j_iadd rfl (j_aload_n rfl rfl (j_gfr rfl hx15 (j_iload_n rfl rfl (j_ial rfl hx16 (j_ias rfl hσ17 (j_aload_n rfl rfl (j_gfr rfl hx18 (j_iload_n rfl rfl (j_iconst (4 : Int32) rfl k32_4 (j_iadd rfl (j_aload_n rfl rfl (j_gfr rfl hx19 (j_iload_n rfl rfl (j_ial rfl hx20 (j_ias rfl hσ21 (j_aload_n rfl rfl (j_gfr rfl hx22 (j_sipush (864 : Int32) rfl ks_864 (j_iload_n rfl rfl (j_imul rfl (j_iconst (3 : Int32) rfl k32_3 (j_iload_n rfl rfl (j_imul rfl (j_iadd rfl (j_aload_n rfl rfl (j_gfr rfl hx23 (j_iload_n rfl rfl (j_lal rfl hx24 (j_las rfl hσ25 (j_aload_n rfl rfl (j_gfr rfl hx26 (j_sipush (864 : Int32) rfl ks_864 (j_iload_n rfl rfl (j_imul rfl (j_iconst (3 : Int32) rfl k32_3 (j_iload_n rfl rfl (j_imul rfl (j_iadd rfl (j_iconst (1 : Int32) rfl k32_1 (j_iadd rfl (j_aload_n rfl rfl (j_gfr rfl hx27 (j_iload_n rfl rfl (j_lal rfl hx28 (j_las rfl hσ29 (j_aload_n rfl rfl (j_gfr rfl hx30 (j_sipush (864 : Int32) rfl ks_864 (j_iload_n rfl rfl (j_imul rfl (j_iconst (3 : Int32) rfl k32_3 (j_iload_n rfl rfl (j_imul rfl (j_iadd rfl (j_iconst (2 : Int32) rfl k32_2 (j_iadd rfl (j_aload_n rfl rfl (j_gfr rfl hx31 (j_iload_n rfl rfl (j_lal rfl hx32 (j_las rfl hσ33 (j_iinc [some (.ref v0), some (.int v1), some (.int (v2 + (1 : Int32))), some (.int (((1440 : Int32) * v1) + ((5 : Int32) * v2)))] (v2 + (1 : Int32)) rfl rfl (by rw [k32_1]) (Or.inr rfl) rfl (j_goto rfl (j_weak (l := [some (.ref v0), some (.int v1), some (.int (v2 + (1 : Int32))), none]) (And.intro (Or.inr rfl) (And.intro (Or.inr rfl) (And.intro (Or.inr rfl) (And.intro (Or.inl rfl) True.intro)))) (g))))))))))))))))))))))))))))))))))))))))))))))))))))))))))))))))))))))))))))))))))))))))))))))))))))))))))) (l_Mo_keeps_L156 hd v0 v1 hX n (v2 + (1 : Int32)) σ33)
    exact J_some (fun h => j_icmp_t rfl (cc_ge_t h1) (j_weak (l := [none, none, none, none]) (And.intro (Or.inl rfl) (And.intro (Or.inl rfl) (And.intro (Or.inl rfl) (And.intro (Or.inr rfl) True.intro)))) (hX _ _ h)))

set_option maxRecDepth 100000 in
theorem b_Mo_keeps {fo : Option Nat} {d : Nat} (hd : 1 ≤ d + 1) {o : q_O} {σ' : q_H} (v0 : Nat) (v1 : Int32) (σ : q_H) : q_J (fun (r : Unit) (σ1 : q_H) => o = .inl none ∧ σ' = σ1) (f_Mo_keeps v0 v1 σ) (q_G (q_rf fo) d m_Mo_keeps o σ' 0 [some (.ref v0), some (.int v1), none, none] [] σ) := by
  unfold f_Mo_keeps
  refine J_sq (fun (t1 : Unit) (σ2 : q_H) => q_G (q_rf fo) d m_Mo_keeps o σ' 31 [some (.ref v0), some (.int v1), none, none] [] σ2) (q_J.step (fun g => j_iconst (0 : Int32) rfl k32_0 (j_istore_n [some (.ref v0), some (.int v1), some (.int (0 : Int32)), none] rfl rfl (Or.inr rfl) rfl (g))) (l_Mo_keeps_L2 hd v0 v1 (fun _ _ h => h) q_FU (0 : Int32) σ)) (fun t1 σ2 => ?_)
  refine J_sq (fun (t3 : Unit) (σ4 : q_H) => q_G (q_rf fo) d m_Mo_keeps o σ' 154 [some (.ref v0), some (.int v1), none, none] [] σ4) (q_J.step (fun g => j_iconst (0 : Int32) rfl k32_0 (j_istore_n [some (.ref v0), some (.int v1), some (.int (0 : Int32)), none] rfl rfl (Or.inr rfl) rfl (g))) (l_Mo_keeps_L33 hd v0 v1 (fun _ _ h => h) q_FU (0 : Int32) σ2)) (fun t3 σ4 => ?_)
  refine J_sq (fun (t5 : Unit) (σ6 : q_H) => q_G (q_rf fo) d m_Mo_keeps o σ' 311 [none, none, none, none] [] σ6) (q_J.step (fun g => j_iconst (0 : Int32) rfl k32_0 (j_istore_n [some (.ref v0), some (.int v1), some (.int (0 : Int32)), none] rfl rfl (Or.inr rfl) rfl (g))) (l_Mo_keeps_L156 hd v0 v1 (fun _ _ h => h) q_FU (0 : Int32) σ4)) (fun t5 σ6 => ?_)
  exact J_some (fun h => j_vret rfl rfl h)
theorem t_Mo_keeps {fo : Option Nat} {d : Nat} (hd : 1 ≤ d) {v0 : Nat} {v1 : Int32} {σ σ1 : q_H} {r : Unit} (h : f_Mo_keeps v0 v1 σ = some (r, σ1)) : q_Rel (q_rf fo) q_Ms d 277 [.ref v0, .int v1] σ (.inl none) σ1 := by
  obtain ⟨d, rfl⟩ : ∃ d1, d = d1 + 1 := ⟨d - 1, by omega⟩
  exact q_Rel.of rfl rfl (b_Mo_keeps hd _ _ σ _ _ h ⟨rfl, rfl⟩)

set_option maxRecDepth 100000 in
theorem b_Mo_side {fo : Option Nat} {d : Nat} (hd : 2 ≤ d + 1) {o : q_O} {σ' : q_H} (v0 : Nat) (v1 : Int32) (v2 : Int32) (σ : q_H) : q_J (fun (r : Int32) (σ1 : q_H) => o = .inl (some (.int r)) ∧ σ' = σ1) (f_Mo_side v0 v1 v2 σ) (q_G (q_rf fo) d m_Mo_side o σ' 0 [some (.ref v0), some (.int v1), some (.int v2)] [] σ) := by
  unfold f_Mo_side
  refine J_bind fun σ1 hσ1 => ?_
  refine J_cl fun x3 σ2 hσ2 => ?_
  refine q_J.step (fun g => j_aload_n rfl rfl (j_iconst (0 : Int32) rfl k32_0 (j_putf rfl rfl rfl rfl hσ1 (j_iload_n rfl rfl (j_iconst (0 : Int32) rfl k32_0 (j_iconst (5 : Int32) rfl k32_5 (j_s1 [.int v1, .int (0 : Int32), .int (5 : Int32)] [] rfl rfl rfl rfl rfl (t_Mo_within (by omega) hσ2) (g)))))))) ?_
  refine J_ite (fun h4 => ?_) (fun h4 => ?_)
  · exact J_some (fun h => j_if_t rfl (cc_eq_t h4) (j_iconst (0 : Int32) rfl k32_0 (j_iret rfl (q_zr (Or.inl rfl)) h)))
  refine J_cl fun x6 σ5 hσ5 => ?_
  refine q_J.step (fun g => j_if_f rfl (cc_eq_f h4) (j_iload_n rfl rfl (j_iconst (0 : Int32) rfl k32_0 (j_iconst (1 : Int32) rfl k32_1 (j_s1 [.int v2, .int (0 : Int32), .int (1 : Int32)] [] rfl rfl rfl rfl rfl (t_Mo_within (by omega) hσ5) (g)))))) ?_
  refine J_ite (fun h7 => ?_) (fun h7 => ?_)
  · exact J_some (fun h => j_if_f rfl (cc_ne_f h7) (j_iconst (0 : Int32) rfl k32_0 (j_iret rfl (q_zr (Or.inl rfl)) h)))
  refine J_bind fun x8 hx8 => ?_
  refine J_bind fun σ9 hσ9 => ?_
  exact J_some (fun h => j_if_t rfl (cc_ne_t h7) (j_aload_n rfl rfl (j_gfr rfl hx8 (j_iload_n rfl rfl (j_iload_n rfl rfl (j_ias rfl hσ9 (j_iconst (1 : Int32) rfl k32_1 (j_iret rfl (q_zr (Or.inr rfl)) h))))))))
theorem t_Mo_side {fo : Option Nat} {d : Nat} (hd : 2 ≤ d) {v0 : Nat} {v1 : Int32} {v2 : Int32} {σ σ1 : q_H} {r : Int32} (h : f_Mo_side v0 v1 v2 σ = some (r, σ1)) : q_Rel (q_rf fo) q_Ms d 171 [.ref v0, .int v1, .int v2] σ (.inl (some (.int r))) σ1 := by
  obtain ⟨d, rfl⟩ : ∃ d1, d = d1 + 1 := ⟨d - 1, by omega⟩
  exact q_Rel.of rfl rfl (b_Mo_side hd _ _ _ σ _ _ h ⟨rfl, rfl⟩)

set_option maxRecDepth 100000 in
theorem b_Mo_sheet {fo : Option Nat} {d : Nat} (hd : 2 ≤ d + 1) {o : q_O} {σ' : q_H} (v0 : Nat) (v1 : Int32) (v2 : Int32) (v3 : Int32) (σ : q_H) : q_J (fun (r : Int32) (σ1 : q_H) => o = .inl (some (.int r)) ∧ σ' = σ1) (f_Mo_sheet v0 v1 v2 v3 σ) (q_G (q_rf fo) d m_Mo_sheet o σ' 0 [some (.ref v0), some (.int v1), some (.int v2), some (.int v3)] [] σ) := by
  unfold f_Mo_sheet
  refine J_bind fun σ1 hσ1 => ?_
  refine J_cl fun x3 σ2 hσ2 => ?_
  refine q_J.step (fun g => j_aload_n rfl rfl (j_iconst (0 : Int32) rfl k32_0 (j_putf rfl rfl rfl rfl hσ1 (j_iload_n rfl rfl (j_iconst (0 : Int32) rfl k32_0 (j_bipush (23 : Int32) rfl kb_23 (j_s1 [.int v1, .int (0 : Int32), .int (23 : Int32)] [] rfl rfl rfl rfl rfl (t_Mo_within (by omega) hσ2) (g)))))))) ?_
  refine J_ite (fun h4 => ?_) (fun h4 => ?_)
  · exact J_some (fun h => j_if_t rfl (cc_eq_t h4) (j_iconst (0 : Int32) rfl k32_0 (j_iret rfl (q_zr (Or.inl rfl)) h)))
  refine J_cl fun x6 σ5 hσ5 => ?_
  refine q_J.step (fun g => j_if_f rfl (cc_eq_f h4) (j_iload_n rfl rfl (j_iconst (0 : Int32) rfl k32_0 (j_iconst (5 : Int32) rfl k32_5 (j_s1 [.int v2, .int (0 : Int32), .int (5 : Int32)] [] rfl rfl rfl rfl rfl (t_Mo_within (by omega) hσ5) (g)))))) ?_
  refine J_ite (fun h7 => ?_) (fun h7 => ?_)
  · exact J_some (fun h => j_if_t rfl (cc_eq_t h7) (j_iconst (0 : Int32) rfl k32_0 (j_iret rfl (q_zr (Or.inl rfl)) h)))
  refine J_cl fun x9 σ8 hσ8 => ?_
  refine q_J.step (fun g => j_if_f rfl (cc_eq_f h7) (j_iload_n rfl rfl (j_iconst (0 : Int32) rfl k32_0 (j_bipush (7 : Int32) rfl kb_7 (j_s1 [.int v3, .int (0 : Int32), .int (7 : Int32)] [] rfl rfl rfl rfl rfl (t_Mo_within (by omega) hσ8) (g)))))) ?_
  refine J_ite (fun h10 => ?_) (fun h10 => ?_)
  · exact J_some (fun h => j_if_f rfl (cc_ne_f h10) (j_iconst (0 : Int32) rfl k32_0 (j_iret rfl (q_zr (Or.inl rfl)) h)))
  refine J_bind fun x11 hx11 => ?_
  refine J_bind fun σ12 hσ12 => ?_
  refine J_bind fun x13 hx13 => ?_
  refine J_bind fun σ14 hσ14 => ?_
  refine J_bind fun x15 hx15 => ?_
  refine J_bind fun σ16 hσ16 => ?_
  refine J_bind fun x17 hx17 => ?_
  refine J_bind fun σ18 hσ18 => ?_
  refine J_bind fun x19 hx19 => ?_
  refine J_bind fun σ20 hσ20 => ?_
  exact J_some (fun h => j_if_t rfl (cc_ne_t h10) (j_aload_n rfl rfl (j_gfr rfl hx11 (j_iload_n rfl rfl (j_iconst (1 : Int32) rfl k32_1 (j_bas rfl (by decide) hσ12 (j_aload_n rfl rfl (j_gfr rfl hx13 (j_iload_n rfl rfl (j_iconst (0 : Int32) rfl k32_0 (j_bas rfl (by decide) hσ14 (j_aload_n rfl rfl (j_gfr rfl hx15 (j_iload_n rfl rfl (j_iload_n rfl rfl (j_ias rfl hσ16 (j_aload_n rfl rfl (j_gfr rfl hx17 (j_iload_n rfl rfl (j_iload_n rfl rfl (j_ias rfl hσ18 (j_aload_n rfl rfl (j_gfr rfl hx19 (j_iload_n rfl rfl (j_iconst (2 : Int32) rfl k32_2 (j_ias rfl hσ20 (j_iconst (1 : Int32) rfl k32_1 (j_iret rfl (q_zr (Or.inr rfl)) h))))))))))))))))))))))))))))
theorem t_Mo_sheet {fo : Option Nat} {d : Nat} (hd : 2 ≤ d) {v0 : Nat} {v1 : Int32} {v2 : Int32} {v3 : Int32} {σ σ1 : q_H} {r : Int32} (h : f_Mo_sheet v0 v1 v2 v3 σ = some (r, σ1)) : q_Rel (q_rf fo) q_Ms d 173 [.ref v0, .int v1, .int v2, .int v3] σ (.inl (some (.int r))) σ1 := by
  obtain ⟨d, rfl⟩ : ∃ d1, d = d1 + 1 := ⟨d - 1, by omega⟩
  exact q_Rel.of rfl rfl (b_Mo_sheet hd _ _ _ _ σ _ _ h ⟨rfl, rfl⟩)

set_option maxRecDepth 100000 in
theorem b_Mo_isSheet {fo : Option Nat} {d : Nat} (hd : 2 ≤ d + 1) {o : q_O} {σ' : q_H} (v0 : Nat) (v1 : Int32) (σ : q_H) : q_J (fun (r : Int32) (σ1 : q_H) => o = .inl (some (.int r)) ∧ σ' = σ1) (f_Mo_isSheet v0 v1 σ) (q_G (q_rf fo) d m_Mo_isSheet o σ' 0 [some (.ref v0), some (.int v1)] [] σ) := by
  unfold f_Mo_isSheet
  refine J_cl fun x2 σ1 hσ1 => ?_
  refine q_J.step (fun g => j_iload_n rfl rfl (j_iconst (0 : Int32) rfl k32_0 (j_bipush (23 : Int32) rfl kb_23 (j_s1 [.int v1, .int (0 : Int32), .int (23 : Int32)] [] rfl rfl rfl rfl rfl (t_Mo_within (by omega) hσ1) (g))))) ?_
  refine J_ite (fun h3 => ?_) (fun h3 => ?_)
  · exact J_some (fun h => j_if_t rfl (cc_eq_t h3) (j_iconst (0 : Int32) rfl k32_0 (j_iret rfl (q_zr (Or.inl rfl)) h)))
  refine J_bind fun x4 hx4 => ?_
  refine J_bind fun x5 hx5 => ?_
  refine q_J.step (fun g => j_if_f rfl (cc_eq_f h3) (j_aload_n rfl rfl (j_gfr rfl hx4 (j_iload_n rfl rfl (j_bal rfl rfl hx5 (g)))))) ?_
  refine J_ite (fun h6 => ?_) (fun h6 => ?_)
  · exact J_some (fun h => j_if_t rfl (cc_eq_t h6) (j_iconst (0 : Int32) rfl k32_0 (j_iret rfl (q_zr (Or.inl rfl)) h)))
  exact J_some (fun h => j_if_f rfl (cc_eq_f h6) (j_iconst (1 : Int32) rfl k32_1 (j_goto rfl (j_iret rfl (q_zr (Or.inr rfl)) h))))
theorem t_Mo_isSheet {fo : Option Nat} {d : Nat} (hd : 2 ≤ d) {v0 : Nat} {v1 : Int32} {σ σ1 : q_H} {r : Int32} (h : f_Mo_isSheet v0 v1 σ = some (r, σ1)) : q_Rel (q_rf fo) q_Ms d 175 [.ref v0, .int v1] σ (.inl (some (.int r))) σ1 := by
  obtain ⟨d, rfl⟩ : ∃ d1, d = d1 + 1 := ⟨d - 1, by omega⟩
  exact q_Rel.of rfl rfl (b_Mo_isSheet hd _ _ σ _ _ h ⟨rfl, rfl⟩)

set_option maxRecDepth 100000 in
theorem l_Mo_nextToken_L0 {fo : Option Nat} {d : Nat} (hd : 2 ≤ d + 1) {o : q_O} {σ' : q_H} {E : (Unit) → q_H → Prop} (v0 : Nat) (hX : ∀ (t : Unit) σ1, E (t) σ1 → q_G (q_rf fo) d m_Mo_nextToken o σ' 52 [some (.ref v0), none] [] σ1)  : ∀ (n : Nat) (σ : q_H), q_J E (f_Mo_nextToken_L0 v0 n σ) (q_G (q_rf fo) d m_Mo_nextToken o σ' 0 [some (.ref v0), none] [] σ)
  | 0, σ => J_none
  | n + 1, σ => by
    unfold f_Mo_nextToken_L0
    refine J_bind fun x1 hx1 => ?_
    refine J_bind fun x2 hx2 => ?_
    refine q_J.step (fun g => j_aload_n rfl rfl (j_gfi rfl hx1 (j_aload_n rfl rfl (j_gfi rfl hx2 (g))))) ?_
    refine J_ite (fun h3 => ?_) (fun h3 => ?_)
    · refine J_bind fun x4 hx4 => ?_
      refine J_bind fun x5 hx5 => ?_
      refine J_bind fun x6 hx6 => ?_
      refine q_J.step (fun g => j_icmp_f rfl (cc_ge_f h3) (j_aload_n rfl rfl (j_gfr rfl hx4 (j_aload_n rfl rfl (j_gfi rfl hx5 (j_ial rfl hx6 (j_bipush (32 : Int32) rfl kb_32 (g)))))))) ?_
      refine J_ite (fun h7 => ?_) (fun h7 => ?_)
      · refine J_bind fun x8 hx8 => ?_
        refine J_bind fun σ9 hσ9 => ?_
        exact q_J.step (fun g => j_icmp_t rfl (cc_eq_t h7) (j_aload_n rfl rfl (j_dup rfl rfl (j_gfi rfl hx8 (j_iconst (1 : Int32) rfl k32_1 (j_iadd rfl (j_putf rfl rfl rfl rfl hσ9 (j_goto rfl (g))))))))) (l_Mo_nextToken_L0 hd v0 hX n σ9)
      refine J_bind fun x10 hx10 => ?_
      refine J_bind fun x11 hx11 => ?_
      refine J_bind fun x12 hx12 => ?_
      refine q_J.step (fun g => j_icmp_f rfl (cc_eq_f h7) (j_aload_n rfl rfl (j_gfr rfl hx10 (j_aload_n rfl rfl (j_gfi rfl hx11 (j_ial rfl hx12 (j_bipush (10 : Int32) rfl kb_10 (g)))))))) ?_
      refine J_ite (fun h13 => ?_) (fun h13 => ?_)
      · refine J_bind fun x14 hx14 => ?_
        refine J_bind fun σ15 hσ15 => ?_
        exact q_J.step (fun g => j_icmp_f rfl (cc_ne_f h13) (j_aload_n rfl rfl (j_dup rfl rfl (j_gfi rfl hx14 (j_iconst (1 : Int32) rfl k32_1 (j_iadd rfl (j_putf rfl rfl rfl rfl hσ15 (j_goto rfl (g))))))))) (l_Mo_nextToken_L0 hd v0 hX n σ15)
      exact J_some (fun h => j_icmp_t rfl (cc_ne_t h13) (hX _ _ h))
    exact J_some (fun h => j_icmp_t rfl (cc_ge_t h3) (hX _ _ h))

set_option maxRecDepth 100000 in
theorem l_Mo_nextToken_L224 {fo : Option Nat} {d : Nat} (hd : 2 ≤ d + 1) {o : q_O} {σ' : q_H} {E : (Unit) → q_H → Prop} (v0 : Nat) (hX : ∀ (t : Unit) σ1, E (t) σ1 → q_G (q_rf fo) d m_Mo_nextToken o σ' 299 [some (.ref v0), none] [] σ1)  : ∀ (n : Nat) (σ : q_H), q_J E (f_Mo_nextToken_L224 v0 n σ) (q_G (q_rf fo) d m_Mo_nextToken o σ' 224 [some (.ref v0), none] [] σ)
  | 0, σ => J_none
  | n + 1, σ => by
    unfold f_Mo_nextToken_L224
    refine J_bind fun x1 hx1 => ?_
    refine J_bind fun w2 hw2 => ?_
    refine J_cl fun x4 σ3 hσ3 => ?_
    refine q_J.step (fun g => j_aload_n rfl rfl (j_aload_n rfl rfl (j_gfi rfl hx1 (j_v1 [.ref v0, .int x1] [] rfl rfl rfl rfl rfl rfl hw2 (Or.inl rfl) (t_Mo_signAt (by omega) hσ3) (j_bipush (48 : Int32) rfl kb_48 (g)))))) ?_
    refine J_ite (fun h5 => ?_) (fun h5 => ?_)
    · exact J_some (fun h => j_icmp_t rfl (cc_lt_t h5) (hX _ _ h))
    refine J_bind fun x6 hx6 => ?_
    refine J_bind fun w7 hw7 => ?_
    refine J_cl fun x9 σ8 hσ8 => ?_
    refine q_J.step (fun g => j_icmp_f rfl (cc_lt_f h5) (j_aload_n rfl rfl (j_aload_n rfl rfl (j_gfi rfl hx6 (j_v1 [.ref v0, .int x6] [] rfl rfl rfl rfl rfl rfl hw7 (Or.inl rfl) (t_Mo_signAt (by omega) hσ8) (j_bipush (57 : Int32) rfl kb_57 (g))))))) ?_
    refine J_ite (fun h10 => ?_) (fun h10 => ?_)
    · exact J_some (fun h => j_icmp_t rfl (cc_gt_t h10) (hX _ _ h))
    refine J_bind fun x11 hx11 => ?_
    refine J_bind fun x12 hx12 => ?_
    refine q_J.step (fun g => j_icmp_f rfl (cc_gt_f h10) (j_aload_n rfl rfl (j_gfi rfl hx11 (j_aload_n rfl rfl (j_gfi rfl hx12 (j_isub rfl (j_iconst (4 : Int32) rfl k32_4 (g)))))))) ?_
    refine J_ite (fun h13 => ?_) (fun h13 => ?_)
    · refine J_bind fun x14 hx14 => ?_
      refine J_bind fun x15 hx15 => ?_
      refine J_bind fun w16 hw16 => ?_
      refine J_cl fun x18 σ17 hσ17 => ?_
      refine J_bind fun σ19 hσ19 => ?_
      refine J_bind fun x20 hx20 => ?_
      refine J_bind fun σ21 hσ21 => ?_
      exact q_J.step (fun g => j_icmp_f rfl (cc_ge_f h13) (j_aload_n rfl rfl (j_aload_n rfl rfl (j_gfi rfl hx14 (j_bipush (10 : Int32) rfl kb_10 (j_imul rfl (j_aload_n rfl rfl (j_aload_n rfl rfl (j_gfi rfl hx15 (j_v1 [.ref v0, .int x15] [.int (x14 * (10 : Int32)), .ref v0] rfl rfl rfl rfl rfl rfl hw16 (Or.inl rfl) (t_Mo_signAt (by omega) hσ17) (j_iadd rfl (j_bipush (48 : Int32) rfl kb_48 (j_isub rfl (j_putf rfl rfl rfl rfl hσ19 (j_aload_n rfl rfl (j_dup rfl rfl (j_gfi rfl hx20 (j_iconst (1 : Int32) rfl k32_1 (j_iadd rfl (j_putf rfl rfl rfl rfl hσ21 (j_goto rfl (g)))))))))))))))))))))) (l_Mo_nextToken_L224 hd v0 hX n σ21)
    refine J_bind fun x22 hx22 => ?_
    refine J_bind fun σ23 hσ23 => ?_
    exact q_J.step (fun g => j_icmp_t rfl (cc_ge_t h13) (j_aload_n rfl rfl (j_dup rfl rfl (j_gfi rfl hx22 (j_iconst (1 : Int32) rfl k32_1 (j_iadd rfl (j_putf rfl rfl rfl rfl hσ23 (j_goto rfl (g))))))))) (l_Mo_nextToken_L224 hd v0 hX n σ23)

set_option maxRecDepth 100000 in
theorem l_Mo_nextToken_L109 {fo : Option Nat} {d : Nat} (hd : 2 ≤ d + 1) {o : q_O} {σ' : q_H} {E : (Unit) → q_H → Prop} (v0 : Nat) (hX : ∀ (t : Unit) σ1, E (t) σ1 → q_G (q_rf fo) d m_Mo_nextToken o σ' 188 [some (.ref v0), none] [] σ1)  : ∀ (n : Nat) (σ : q_H), q_J E (f_Mo_nextToken_L109 v0 n σ) (q_G (q_rf fo) d m_Mo_nextToken o σ' 109 [some (.ref v0), none] [] σ)
  | 0, σ => J_none
  | n + 1, σ => by
    unfold f_Mo_nextToken_L109
    refine J_bind fun x1 hx1 => ?_
    refine J_bind fun w2 hw2 => ?_
    refine J_cl fun x4 σ3 hσ3 => ?_
    refine q_J.step (fun g => j_aload_n rfl rfl (j_aload_n rfl rfl (j_gfi rfl hx1 (j_v1 [.ref v0, .int x1] [] rfl rfl rfl rfl rfl rfl hw2 (Or.inl rfl) (t_Mo_signAt (by omega) hσ3) (j_bipush (97 : Int32) rfl kb_97 (g)))))) ?_
    refine J_ite (fun h5 => ?_) (fun h5 => ?_)
    · exact J_some (fun h => j_icmp_t rfl (cc_lt_t h5) (hX _ _ h))
    refine J_bind fun x6 hx6 => ?_
    refine J_bind fun w7 hw7 => ?_
    refine J_cl fun x9 σ8 hσ8 => ?_
    refine q_J.step (fun g => j_icmp_f rfl (cc_lt_f h5) (j_aload_n rfl rfl (j_aload_n rfl rfl (j_gfi rfl hx6 (j_v1 [.ref v0, .int x6] [] rfl rfl rfl rfl rfl rfl hw7 (Or.inl rfl) (t_Mo_signAt (by omega) hσ8) (j_bipush (122 : Int32) rfl kb_122 (g))))))) ?_
    refine J_ite (fun h10 => ?_) (fun h10 => ?_)
    · exact J_some (fun h => j_icmp_t rfl (cc_gt_t h10) (hX _ _ h))
    refine J_bind fun x11 hx11 => ?_
    refine J_bind fun x12 hx12 => ?_
    refine q_J.step (fun g => j_icmp_f rfl (cc_gt_f h10) (j_aload_n rfl rfl (j_gfi rfl hx11 (j_aload_n rfl rfl (j_gfi rfl hx12 (j_isub rfl (j_bipush (8 : Int32) rfl kb_8 (g)))))))) ?_
    refine J_ite (fun h13 => ?_) (fun h13 => ?_)
    · refine J_bind fun x14 hx14 => ?_
      refine J_bind fun x15 hx15 => ?_
      refine J_bind fun w16 hw16 => ?_
      refine J_cl fun x18 σ17 hσ17 => ?_
      refine J_bind fun σ19 hσ19 => ?_
      refine J_bind fun x20 hx20 => ?_
      refine J_bind fun σ21 hσ21 => ?_
      exact q_J.step (fun g => j_icmp_f rfl (cc_ge_f h13) (j_aload_n rfl rfl (j_aload_n rfl rfl (j_gfl rfl hx14 (j_ldc2 (27 : Int64) rfl kw_27 (j_lmul rfl (j_aload_n rfl rfl (j_aload_n rfl rfl (j_gfi rfl hx15 (j_v1 [.ref v0, .int x15] [.long (x14 * (27 : Int64)), .ref v0] rfl rfl rfl rfl rfl rfl hw16 (Or.inl rfl) (t_Mo_signAt (by omega) hσ17) (j_i2l rfl (j_ladd rfl (j_ldc2 (96 : Int64) rfl kw_96 (j_lsub rfl (j_putf rfl rfl rfl rfl hσ19 (j_aload_n rfl rfl (j_dup rfl rfl (j_gfi rfl hx20 (j_iconst (1 : Int32) rfl k32_1 (j_iadd rfl (j_putf rfl rfl rfl rfl hσ21 (j_goto rfl (g))))))))))))))))))))))) (l_Mo_nextToken_L109 hd v0 hX n σ21)
    refine J_bind fun x22 hx22 => ?_
    refine J_bind fun σ23 hσ23 => ?_
    exact q_J.step (fun g => j_icmp_t rfl (cc_ge_t h13) (j_aload_n rfl rfl (j_dup rfl rfl (j_gfi rfl hx22 (j_iconst (1 : Int32) rfl k32_1 (j_iadd rfl (j_putf rfl rfl rfl rfl hσ23 (j_goto rfl (g))))))))) (l_Mo_nextToken_L109 hd v0 hX n σ23)

set_option maxRecDepth 100000 in
theorem b_Mo_nextToken {fo : Option Nat} {d : Nat} (hd : 2 ≤ d + 1) {o : q_O} {σ' : q_H} (v0 : Nat) (σ : q_H) : q_J (fun (r : Unit) (σ1 : q_H) => o = .inl none ∧ σ' = σ1) (f_Mo_nextToken v0 σ) (q_G (q_rf fo) d m_Mo_nextToken o σ' 0 [some (.ref v0), none] [] σ) := by
  unfold f_Mo_nextToken
  refine J_sq (fun (t1 : Unit) (σ2 : q_H) => q_G (q_rf fo) d m_Mo_nextToken o σ' 52 [some (.ref v0), none] [] σ2) (l_Mo_nextToken_L0 hd v0 (fun _ _ h => h) q_FU σ) (fun t1 σ2 => ?_)
  refine J_bind fun x3 hx3 => ?_
  refine J_bind fun σ4 hσ4 => ?_
  refine J_bind fun σ5 hσ5 => ?_
  refine J_bind fun σ6 hσ6 => ?_
  refine J_bind fun x7 hx7 => ?_
  refine J_bind fun x8 hx8 => ?_
  refine q_J.step (fun g => j_aload_n rfl rfl (j_aload_n rfl rfl (j_gfi rfl hx3 (j_putf rfl rfl rfl rfl hσ4 (j_aload_n rfl rfl (j_lconst (0 : Int64) rfl kl_0 (j_putf rfl rfl rfl rfl hσ5 (j_aload_n rfl rfl (j_iconst (0 : Int32) rfl k32_0 (j_putf rfl rfl rfl rfl hσ6 (j_aload_n rfl rfl (j_gfi rfl hx7 (j_aload_n rfl rfl (j_gfi rfl hx8 (g))))))))))))))) ?_
  refine J_ite (fun h9 => ?_) (fun h9 => ?_)
  · refine J_bind fun σ10 hσ10 => ?_
    exact J_some (fun h => j_icmp_f rfl (cc_ne_f h9) (j_aload_n rfl rfl (j_iconst (0 : Int32) rfl k32_0 (j_putf rfl rfl rfl rfl hσ10 (j_vret rfl rfl h)))))
  refine J_bind fun x11 hx11 => ?_
  refine J_bind fun x12 hx12 => ?_
  refine J_bind fun x13 hx13 => ?_
  refine q_J.step (fun g => j_icmp_t rfl (cc_ne_t h9) (j_aload_n rfl rfl (j_gfr rfl hx11 (j_aload_n rfl rfl (j_gfi rfl hx12 (j_ial rfl hx13 (j_istore_n [some (.ref v0), some (.int x13)] rfl rfl (Or.inr rfl) rfl (j_iload_n rfl rfl (j_bipush (97 : Int32) rfl kb_97 (g)))))))))) ?_
  refine J_ite (fun h14 => ?_) (fun h14 => ?_)
  · refine q_J.step (fun g => j_icmp_t rfl (cc_lt_t h14) (j_iload_n rfl rfl (j_bipush (48 : Int32) rfl kb_48 (g)))) ?_
    refine J_ite (fun h15 => ?_) (fun h15 => ?_)
    · refine J_bind fun x16 hx16 => ?_
      refine J_bind fun σ17 hσ17 => ?_
      refine q_J.step (fun g => j_icmp_t rfl (cc_lt_t h15) (j_aload_n rfl rfl (j_dup rfl rfl (j_gfi rfl hx16 (j_iconst (1 : Int32) rfl k32_1 (j_iadd rfl (j_putf rfl rfl rfl rfl hσ17 (j_aload_n rfl rfl (j_iload_n rfl rfl (j_bipush (40 : Int32) rfl kb_40 (g))))))))))) ?_
      refine J_ite (fun h18 => ?_) (fun h18 => ?_)
      · refine q_J.step (fun g => j_icmp_t rfl (cc_lt_t h18) (j_iload_n rfl rfl (j_bipush (45 : Int32) rfl kb_45 (g)))) ?_
        refine J_ite (fun h19 => ?_) (fun h19 => ?_)
        · refine J_bind fun σ20 hσ20 => ?_
          exact J_some (fun h => j_icmp_t rfl (cc_eq_t h19) (j_iconst (3 : Int32) rfl k32_3 (j_goto rfl (j_putf rfl rfl rfl rfl hσ20 (j_vret rfl rfl h)))))
        refine q_J.step (fun g => j_icmp_f rfl (cc_eq_f h19) (j_iload_n rfl rfl (j_bipush (59 : Int32) rfl kb_59 (g)))) ?_
        refine J_ite (fun h21 => ?_) (fun h21 => ?_)
        · refine J_bind fun σ22 hσ22 => ?_
          exact J_some (fun h => j_icmp_t rfl (cc_lt_t h21) (j_iconst (4 : Int32) rfl k32_4 (j_putf rfl rfl rfl rfl hσ22 (j_vret rfl rfl h))))
        refine q_J.step (fun g => j_icmp_f rfl (cc_lt_f h21) (j_iload_n rfl rfl (j_bipush (61 : Int32) rfl kb_61 (g)))) ?_
        refine J_ite (fun h23 => ?_) (fun h23 => ?_)
        · refine J_bind fun σ24 hσ24 => ?_
          exact J_some (fun h => j_icmp_t rfl (cc_gt_t h23) (j_iconst (4 : Int32) rfl k32_4 (j_putf rfl rfl rfl rfl hσ24 (j_vret rfl rfl h))))
        refine J_bind fun σ25 hσ25 => ?_
        exact J_some (fun h => j_icmp_f rfl (cc_gt_f h23) (j_iconst (3 : Int32) rfl k32_3 (j_goto rfl (j_putf rfl rfl rfl rfl hσ25 (j_vret rfl rfl h)))))
      refine q_J.step (fun g => j_icmp_f rfl (cc_lt_f h18) (j_iload_n rfl rfl (j_bipush (43 : Int32) rfl kb_43 (g)))) ?_
      refine J_ite (fun h26 => ?_) (fun h26 => ?_)
      · refine q_J.step (fun g => j_icmp_f rfl (cc_le_f h26) (j_iload_n rfl rfl (j_bipush (45 : Int32) rfl kb_45 (g)))) ?_
        refine J_ite (fun h27 => ?_) (fun h27 => ?_)
        · refine J_bind fun σ28 hσ28 => ?_
          exact J_some (fun h => j_icmp_t rfl (cc_eq_t h27) (j_iconst (3 : Int32) rfl k32_3 (j_goto rfl (j_putf rfl rfl rfl rfl hσ28 (j_vret rfl rfl h)))))
        refine q_J.step (fun g => j_icmp_f rfl (cc_eq_f h27) (j_iload_n rfl rfl (j_bipush (59 : Int32) rfl kb_59 (g)))) ?_
        refine J_ite (fun h29 => ?_) (fun h29 => ?_)
        · refine J_bind fun σ30 hσ30 => ?_
          exact J_some (fun h => j_icmp_t rfl (cc_lt_t h29) (j_iconst (4 : Int32) rfl k32_4 (j_putf rfl rfl rfl rfl hσ30 (j_vret rfl rfl h))))
        refine q_J.step (fun g => j_icmp_f rfl (cc_lt_f h29) (j_iload_n rfl rfl (j_bipush (61 : Int32) rfl kb_61 (g)))) ?_
        refine J_ite (fun h31 => ?_) (fun h31 => ?_)
        · refine J_bind fun σ32 hσ32 => ?_
          exact J_some (fun h => j_icmp_t rfl (cc_gt_t h31) (j_iconst (4 : Int32) rfl k32_4 (j_putf rfl rfl rfl rfl hσ32 (j_vret rfl rfl h))))
        refine J_bind fun σ33 hσ33 => ?_
        exact J_some (fun h => j_icmp_f rfl (cc_gt_f h31) (j_iconst (3 : Int32) rfl k32_3 (j_goto rfl (j_putf rfl rfl rfl rfl hσ33 (j_vret rfl rfl h)))))
      refine J_bind fun σ34 hσ34 => ?_
      exact J_some (fun h => j_icmp_t rfl (cc_le_t h26) (j_iconst (3 : Int32) rfl k32_3 (j_goto rfl (j_putf rfl rfl rfl rfl hσ34 (j_vret rfl rfl h)))))
    refine q_J.step (fun g => j_icmp_f rfl (cc_lt_f h15) (j_iload_n rfl rfl (j_bipush (57 : Int32) rfl kb_57 (g)))) ?_
    refine J_ite (fun h35 => ?_) (fun h35 => ?_)
    · refine J_bind fun x36 hx36 => ?_
      refine J_bind fun σ37 hσ37 => ?_
      refine q_J.step (fun g => j_icmp_t rfl (cc_gt_t h35) (j_aload_n rfl rfl (j_dup rfl rfl (j_gfi rfl hx36 (j_iconst (1 : Int32) rfl k32_1 (j_iadd rfl (j_putf rfl rfl rfl rfl hσ37 (j_aload_n rfl rfl (j_iload_n rfl rfl (j_bipush (40 : Int32) rfl kb_40 (g))))))))))) ?_
      refine J_ite (fun h38 => ?_) (fun h38 => ?_)
      · refine q_J.step (fun g => j_icmp_t rfl (cc_lt_t h38) (j_iload_n rfl rfl (j_bipush (45 : Int32) rfl kb_45 (g)))) ?_
        refine J_ite (fun h39 => ?_) (fun h39 => ?_)
        · refine J_bind fun σ40 hσ40 => ?_
          exact J_some (fun h => j_icmp_t rfl (cc_eq_t h39) (j_iconst (3 : Int32) rfl k32_3 (j_goto rfl (j_putf rfl rfl rfl rfl hσ40 (j_vret rfl rfl h)))))
        refine q_J.step (fun g => j_icmp_f rfl (cc_eq_f h39) (j_iload_n rfl rfl (j_bipush (59 : Int32) rfl kb_59 (g)))) ?_
        refine J_ite (fun h41 => ?_) (fun h41 => ?_)
        · refine J_bind fun σ42 hσ42 => ?_
          exact J_some (fun h => j_icmp_t rfl (cc_lt_t h41) (j_iconst (4 : Int32) rfl k32_4 (j_putf rfl rfl rfl rfl hσ42 (j_vret rfl rfl h))))
        refine q_J.step (fun g => j_icmp_f rfl (cc_lt_f h41) (j_iload_n rfl rfl (j_bipush (61 : Int32) rfl kb_61 (g)))) ?_
        refine J_ite (fun h43 => ?_) (fun h43 => ?_)
        · refine J_bind fun σ44 hσ44 => ?_
          exact J_some (fun h => j_icmp_t rfl (cc_gt_t h43) (j_iconst (4 : Int32) rfl k32_4 (j_putf rfl rfl rfl rfl hσ44 (j_vret rfl rfl h))))
        refine J_bind fun σ45 hσ45 => ?_
        exact J_some (fun h => j_icmp_f rfl (cc_gt_f h43) (j_iconst (3 : Int32) rfl k32_3 (j_goto rfl (j_putf rfl rfl rfl rfl hσ45 (j_vret rfl rfl h)))))
      refine q_J.step (fun g => j_icmp_f rfl (cc_lt_f h38) (j_iload_n rfl rfl (j_bipush (43 : Int32) rfl kb_43 (g)))) ?_
      refine J_ite (fun h46 => ?_) (fun h46 => ?_)
      · refine q_J.step (fun g => j_icmp_f rfl (cc_le_f h46) (j_iload_n rfl rfl (j_bipush (45 : Int32) rfl kb_45 (g)))) ?_
        refine J_ite (fun h47 => ?_) (fun h47 => ?_)
        · refine J_bind fun σ48 hσ48 => ?_
          exact J_some (fun h => j_icmp_t rfl (cc_eq_t h47) (j_iconst (3 : Int32) rfl k32_3 (j_goto rfl (j_putf rfl rfl rfl rfl hσ48 (j_vret rfl rfl h)))))
        refine q_J.step (fun g => j_icmp_f rfl (cc_eq_f h47) (j_iload_n rfl rfl (j_bipush (59 : Int32) rfl kb_59 (g)))) ?_
        refine J_ite (fun h49 => ?_) (fun h49 => ?_)
        · refine J_bind fun σ50 hσ50 => ?_
          exact J_some (fun h => j_icmp_t rfl (cc_lt_t h49) (j_iconst (4 : Int32) rfl k32_4 (j_putf rfl rfl rfl rfl hσ50 (j_vret rfl rfl h))))
        refine q_J.step (fun g => j_icmp_f rfl (cc_lt_f h49) (j_iload_n rfl rfl (j_bipush (61 : Int32) rfl kb_61 (g)))) ?_
        refine J_ite (fun h51 => ?_) (fun h51 => ?_)
        · refine J_bind fun σ52 hσ52 => ?_
          exact J_some (fun h => j_icmp_t rfl (cc_gt_t h51) (j_iconst (4 : Int32) rfl k32_4 (j_putf rfl rfl rfl rfl hσ52 (j_vret rfl rfl h))))
        refine J_bind fun σ53 hσ53 => ?_
        exact J_some (fun h => j_icmp_f rfl (cc_gt_f h51) (j_iconst (3 : Int32) rfl k32_3 (j_goto rfl (j_putf rfl rfl rfl rfl hσ53 (j_vret rfl rfl h)))))
      refine J_bind fun σ54 hσ54 => ?_
      exact J_some (fun h => j_icmp_t rfl (cc_le_t h46) (j_iconst (3 : Int32) rfl k32_3 (j_goto rfl (j_putf rfl rfl rfl rfl hσ54 (j_vret rfl rfl h)))))
    refine J_sq (fun (t55 : Unit) (σ56 : q_H) => q_G (q_rf fo) d m_Mo_nextToken o σ' 299 [some (.ref v0), none] [] σ56) (q_J.step (fun g => j_icmp_f rfl (cc_gt_f h35) (j_weak (l := [some (.ref v0), none]) (And.intro (Or.inr rfl) (And.intro (Or.inl rfl) True.intro)) (g))) (l_Mo_nextToken_L224 hd v0 (fun _ _ h => h) q_FU σ6)) (fun t55 σ56 => ?_)
    refine J_bind fun x57 hx57 => ?_
    refine J_bind fun x58 hx58 => ?_
    refine q_J.step (fun g => j_aload_n rfl rfl (j_aload_n rfl rfl (j_gfi rfl hx57 (j_aload_n rfl rfl (j_gfi rfl hx58 (j_isub rfl (j_iconst (4 : Int32) rfl k32_4 (g)))))))) ?_
    refine J_ite (fun h59 => ?_) (fun h59 => ?_)
    · refine J_bind fun σ60 hσ60 => ?_
      exact J_some (fun h => j_icmp_f rfl (cc_le_f h59) (j_iconst (4 : Int32) rfl k32_4 (j_goto rfl (j_putf rfl rfl rfl rfl hσ60 (j_vret rfl rfl h)))))
    refine J_bind fun σ61 hσ61 => ?_
    exact J_some (fun h => j_icmp_t rfl (cc_le_t h59) (j_iconst (2 : Int32) rfl k32_2 (j_putf rfl rfl rfl rfl hσ61 (j_vret rfl rfl h))))
  refine q_J.step (fun g => j_icmp_f rfl (cc_lt_f h14) (j_iload_n rfl rfl (j_bipush (122 : Int32) rfl kb_122 (g)))) ?_
  refine J_ite (fun h62 => ?_) (fun h62 => ?_)
  · refine q_J.step (fun g => j_icmp_t rfl (cc_gt_t h62) (j_iload_n rfl rfl (j_bipush (48 : Int32) rfl kb_48 (g)))) ?_
    refine J_ite (fun h63 => ?_) (fun h63 => ?_)
    · refine J_bind fun x64 hx64 => ?_
      refine J_bind fun σ65 hσ65 => ?_
      refine q_J.step (fun g => j_icmp_t rfl (cc_lt_t h63) (j_aload_n rfl rfl (j_dup rfl rfl (j_gfi rfl hx64 (j_iconst (1 : Int32) rfl k32_1 (j_iadd rfl (j_putf rfl rfl rfl rfl hσ65 (j_aload_n rfl rfl (j_iload_n rfl rfl (j_bipush (40 : Int32) rfl kb_40 (g))))))))))) ?_
      refine J_ite (fun h66 => ?_) (fun h66 => ?_)
      · refine q_J.step (fun g => j_icmp_t rfl (cc_lt_t h66) (j_iload_n rfl rfl (j_bipush (45 : Int32) rfl kb_45 (g)))) ?_
        refine J_ite (fun h67 => ?_) (fun h67 => ?_)
        · refine J_bind fun σ68 hσ68 => ?_
          exact J_some (fun h => j_icmp_t rfl (cc_eq_t h67) (j_iconst (3 : Int32) rfl k32_3 (j_goto rfl (j_putf rfl rfl rfl rfl hσ68 (j_vret rfl rfl h)))))
        refine q_J.step (fun g => j_icmp_f rfl (cc_eq_f h67) (j_iload_n rfl rfl (j_bipush (59 : Int32) rfl kb_59 (g)))) ?_
        refine J_ite (fun h69 => ?_) (fun h69 => ?_)
        · refine J_bind fun σ70 hσ70 => ?_
          exact J_some (fun h => j_icmp_t rfl (cc_lt_t h69) (j_iconst (4 : Int32) rfl k32_4 (j_putf rfl rfl rfl rfl hσ70 (j_vret rfl rfl h))))
        refine q_J.step (fun g => j_icmp_f rfl (cc_lt_f h69) (j_iload_n rfl rfl (j_bipush (61 : Int32) rfl kb_61 (g)))) ?_
        refine J_ite (fun h71 => ?_) (fun h71 => ?_)
        · refine J_bind fun σ72 hσ72 => ?_
          exact J_some (fun h => j_icmp_t rfl (cc_gt_t h71) (j_iconst (4 : Int32) rfl k32_4 (j_putf rfl rfl rfl rfl hσ72 (j_vret rfl rfl h))))
        refine J_bind fun σ73 hσ73 => ?_
        exact J_some (fun h => j_icmp_f rfl (cc_gt_f h71) (j_iconst (3 : Int32) rfl k32_3 (j_goto rfl (j_putf rfl rfl rfl rfl hσ73 (j_vret rfl rfl h)))))
      refine q_J.step (fun g => j_icmp_f rfl (cc_lt_f h66) (j_iload_n rfl rfl (j_bipush (43 : Int32) rfl kb_43 (g)))) ?_
      refine J_ite (fun h74 => ?_) (fun h74 => ?_)
      · refine q_J.step (fun g => j_icmp_f rfl (cc_le_f h74) (j_iload_n rfl rfl (j_bipush (45 : Int32) rfl kb_45 (g)))) ?_
        refine J_ite (fun h75 => ?_) (fun h75 => ?_)
        · refine J_bind fun σ76 hσ76 => ?_
          exact J_some (fun h => j_icmp_t rfl (cc_eq_t h75) (j_iconst (3 : Int32) rfl k32_3 (j_goto rfl (j_putf rfl rfl rfl rfl hσ76 (j_vret rfl rfl h)))))
        refine q_J.step (fun g => j_icmp_f rfl (cc_eq_f h75) (j_iload_n rfl rfl (j_bipush (59 : Int32) rfl kb_59 (g)))) ?_
        refine J_ite (fun h77 => ?_) (fun h77 => ?_)
        · refine J_bind fun σ78 hσ78 => ?_
          exact J_some (fun h => j_icmp_t rfl (cc_lt_t h77) (j_iconst (4 : Int32) rfl k32_4 (j_putf rfl rfl rfl rfl hσ78 (j_vret rfl rfl h))))
        refine q_J.step (fun g => j_icmp_f rfl (cc_lt_f h77) (j_iload_n rfl rfl (j_bipush (61 : Int32) rfl kb_61 (g)))) ?_
        refine J_ite (fun h79 => ?_) (fun h79 => ?_)
        · refine J_bind fun σ80 hσ80 => ?_
          exact J_some (fun h => j_icmp_t rfl (cc_gt_t h79) (j_iconst (4 : Int32) rfl k32_4 (j_putf rfl rfl rfl rfl hσ80 (j_vret rfl rfl h))))
        refine J_bind fun σ81 hσ81 => ?_
        exact J_some (fun h => j_icmp_f rfl (cc_gt_f h79) (j_iconst (3 : Int32) rfl k32_3 (j_goto rfl (j_putf rfl rfl rfl rfl hσ81 (j_vret rfl rfl h)))))
      refine J_bind fun σ82 hσ82 => ?_
      exact J_some (fun h => j_icmp_t rfl (cc_le_t h74) (j_iconst (3 : Int32) rfl k32_3 (j_goto rfl (j_putf rfl rfl rfl rfl hσ82 (j_vret rfl rfl h)))))
    refine q_J.step (fun g => j_icmp_f rfl (cc_lt_f h63) (j_iload_n rfl rfl (j_bipush (57 : Int32) rfl kb_57 (g)))) ?_
    refine J_ite (fun h83 => ?_) (fun h83 => ?_)
    · refine J_bind fun x84 hx84 => ?_
      refine J_bind fun σ85 hσ85 => ?_
      refine q_J.step (fun g => j_icmp_t rfl (cc_gt_t h83) (j_aload_n rfl rfl (j_dup rfl rfl (j_gfi rfl hx84 (j_iconst (1 : Int32) rfl k32_1 (j_iadd rfl (j_putf rfl rfl rfl rfl hσ85 (j_aload_n rfl rfl (j_iload_n rfl rfl (j_bipush (40 : Int32) rfl kb_40 (g))))))))))) ?_
      refine J_ite (fun h86 => ?_) (fun h86 => ?_)
      · refine q_J.step (fun g => j_icmp_t rfl (cc_lt_t h86) (j_iload_n rfl rfl (j_bipush (45 : Int32) rfl kb_45 (g)))) ?_
        refine J_ite (fun h87 => ?_) (fun h87 => ?_)
        · refine J_bind fun σ88 hσ88 => ?_
          exact J_some (fun h => j_icmp_t rfl (cc_eq_t h87) (j_iconst (3 : Int32) rfl k32_3 (j_goto rfl (j_putf rfl rfl rfl rfl hσ88 (j_vret rfl rfl h)))))
        refine q_J.step (fun g => j_icmp_f rfl (cc_eq_f h87) (j_iload_n rfl rfl (j_bipush (59 : Int32) rfl kb_59 (g)))) ?_
        refine J_ite (fun h89 => ?_) (fun h89 => ?_)
        · refine J_bind fun σ90 hσ90 => ?_
          exact J_some (fun h => j_icmp_t rfl (cc_lt_t h89) (j_iconst (4 : Int32) rfl k32_4 (j_putf rfl rfl rfl rfl hσ90 (j_vret rfl rfl h))))
        refine q_J.step (fun g => j_icmp_f rfl (cc_lt_f h89) (j_iload_n rfl rfl (j_bipush (61 : Int32) rfl kb_61 (g)))) ?_
        refine J_ite (fun h91 => ?_) (fun h91 => ?_)
        · refine J_bind fun σ92 hσ92 => ?_
          exact J_some (fun h => j_icmp_t rfl (cc_gt_t h91) (j_iconst (4 : Int32) rfl k32_4 (j_putf rfl rfl rfl rfl hσ92 (j_vret rfl rfl h))))
        refine J_bind fun σ93 hσ93 => ?_
        exact J_some (fun h => j_icmp_f rfl (cc_gt_f h91) (j_iconst (3 : Int32) rfl k32_3 (j_goto rfl (j_putf rfl rfl rfl rfl hσ93 (j_vret rfl rfl h)))))
      refine q_J.step (fun g => j_icmp_f rfl (cc_lt_f h86) (j_iload_n rfl rfl (j_bipush (43 : Int32) rfl kb_43 (g)))) ?_
      refine J_ite (fun h94 => ?_) (fun h94 => ?_)
      · refine q_J.step (fun g => j_icmp_f rfl (cc_le_f h94) (j_iload_n rfl rfl (j_bipush (45 : Int32) rfl kb_45 (g)))) ?_
        refine J_ite (fun h95 => ?_) (fun h95 => ?_)
        · refine J_bind fun σ96 hσ96 => ?_
          exact J_some (fun h => j_icmp_t rfl (cc_eq_t h95) (j_iconst (3 : Int32) rfl k32_3 (j_goto rfl (j_putf rfl rfl rfl rfl hσ96 (j_vret rfl rfl h)))))
        refine q_J.step (fun g => j_icmp_f rfl (cc_eq_f h95) (j_iload_n rfl rfl (j_bipush (59 : Int32) rfl kb_59 (g)))) ?_
        refine J_ite (fun h97 => ?_) (fun h97 => ?_)
        · refine J_bind fun σ98 hσ98 => ?_
          exact J_some (fun h => j_icmp_t rfl (cc_lt_t h97) (j_iconst (4 : Int32) rfl k32_4 (j_putf rfl rfl rfl rfl hσ98 (j_vret rfl rfl h))))
        refine q_J.step (fun g => j_icmp_f rfl (cc_lt_f h97) (j_iload_n rfl rfl (j_bipush (61 : Int32) rfl kb_61 (g)))) ?_
        refine J_ite (fun h99 => ?_) (fun h99 => ?_)
        · refine J_bind fun σ100 hσ100 => ?_
          exact J_some (fun h => j_icmp_t rfl (cc_gt_t h99) (j_iconst (4 : Int32) rfl k32_4 (j_putf rfl rfl rfl rfl hσ100 (j_vret rfl rfl h))))
        refine J_bind fun σ101 hσ101 => ?_
        exact J_some (fun h => j_icmp_f rfl (cc_gt_f h99) (j_iconst (3 : Int32) rfl k32_3 (j_goto rfl (j_putf rfl rfl rfl rfl hσ101 (j_vret rfl rfl h)))))
      refine J_bind fun σ102 hσ102 => ?_
      exact J_some (fun h => j_icmp_t rfl (cc_le_t h94) (j_iconst (3 : Int32) rfl k32_3 (j_goto rfl (j_putf rfl rfl rfl rfl hσ102 (j_vret rfl rfl h)))))
    refine J_sq (fun (t103 : Unit) (σ104 : q_H) => q_G (q_rf fo) d m_Mo_nextToken o σ' 299 [some (.ref v0), none] [] σ104) (q_J.step (fun g => j_icmp_f rfl (cc_gt_f h83) (j_weak (l := [some (.ref v0), none]) (And.intro (Or.inr rfl) (And.intro (Or.inl rfl) True.intro)) (g))) (l_Mo_nextToken_L224 hd v0 (fun _ _ h => h) q_FU σ6)) (fun t103 σ104 => ?_)
    refine J_bind fun x105 hx105 => ?_
    refine J_bind fun x106 hx106 => ?_
    refine q_J.step (fun g => j_aload_n rfl rfl (j_aload_n rfl rfl (j_gfi rfl hx105 (j_aload_n rfl rfl (j_gfi rfl hx106 (j_isub rfl (j_iconst (4 : Int32) rfl k32_4 (g)))))))) ?_
    refine J_ite (fun h107 => ?_) (fun h107 => ?_)
    · refine J_bind fun σ108 hσ108 => ?_
      exact J_some (fun h => j_icmp_f rfl (cc_le_f h107) (j_iconst (4 : Int32) rfl k32_4 (j_goto rfl (j_putf rfl rfl rfl rfl hσ108 (j_vret rfl rfl h)))))
    refine J_bind fun σ109 hσ109 => ?_
    exact J_some (fun h => j_icmp_t rfl (cc_le_t h107) (j_iconst (2 : Int32) rfl k32_2 (j_putf rfl rfl rfl rfl hσ109 (j_vret rfl rfl h))))
  refine J_sq (fun (t110 : Unit) (σ111 : q_H) => q_G (q_rf fo) d m_Mo_nextToken o σ' 188 [some (.ref v0), none] [] σ111) (q_J.step (fun g => j_icmp_f rfl (cc_gt_f h62) (j_weak (l := [some (.ref v0), none]) (And.intro (Or.inr rfl) (And.intro (Or.inl rfl) True.intro)) (g))) (l_Mo_nextToken_L109 hd v0 (fun _ _ h => h) q_FU σ6)) (fun t110 σ111 => ?_)
  refine J_bind fun x112 hx112 => ?_
  refine J_bind fun x113 hx113 => ?_
  refine q_J.step (fun g => j_aload_n rfl rfl (j_aload_n rfl rfl (j_gfi rfl hx112 (j_aload_n rfl rfl (j_gfi rfl hx113 (j_isub rfl (j_bipush (8 : Int32) rfl kb_8 (g)))))))) ?_
  refine J_ite (fun h114 => ?_) (fun h114 => ?_)
  · refine J_bind fun σ115 hσ115 => ?_
    exact J_some (fun h => j_icmp_f rfl (cc_le_f h114) (j_iconst (4 : Int32) rfl k32_4 (j_goto rfl (j_putf rfl rfl rfl rfl hσ115 (j_vret rfl rfl h)))))
  refine J_bind fun σ116 hσ116 => ?_
  exact J_some (fun h => j_icmp_t rfl (cc_le_t h114) (j_iconst (1 : Int32) rfl k32_1 (j_putf rfl rfl rfl rfl hσ116 (j_vret rfl rfl h))))
theorem t_Mo_nextToken {fo : Option Nat} {d : Nat} (hd : 2 ≤ d) {v0 : Nat} {σ σ1 : q_H} {r : Unit} (h : f_Mo_nextToken v0 σ = some (r, σ1)) : q_Rel (q_rf fo) q_Ms d 185 [.ref v0] σ (.inl none) σ1 := by
  obtain ⟨d, rfl⟩ : ∃ d1, d = d1 + 1 := ⟨d - 1, by omega⟩
  exact q_Rel.of rfl rfl (b_Mo_nextToken hd _ σ _ _ h ⟨rfl, rfl⟩)

set_option maxRecDepth 100000 in
theorem b_Mo_isName {fo : Option Nat} {d : Nat} (hd : 2 ≤ d + 1) {o : q_O} {σ' : q_H} (v0 : Nat) (σ : q_H) : q_J (fun (r : Int32) (σ1 : q_H) => o = .inl (some (.int r)) ∧ σ' = σ1) (f_Mo_isName v0 σ) (q_G (q_rf fo) d m_Mo_isName o σ' 0 [some (.ref v0)] [] σ) := by
  unfold f_Mo_isName
  refine J_bind fun x1 hx1 => ?_
  refine q_J.step (fun g => j_aload_n rfl rfl (j_gfi rfl hx1 (j_iconst (1 : Int32) rfl k32_1 (g)))) ?_
  refine J_ite (fun h2 => ?_) (fun h2 => ?_)
  · refine J_bind fun w3 hw3 => ?_
    refine J_cl fun x5 σ4 hσ4 => ?_
    refine q_J.step (fun g => j_icmp_f rfl (cc_ne_f h2) (j_aload_n rfl rfl (j_v1 [.ref v0] [] rfl rfl rfl rfl rfl rfl hw3 (Or.inl rfl) (t_Mo_tag (by omega) hσ4) (g)))) ?_
    refine J_ite (fun h6 => ?_) (fun h6 => ?_)
    · refine J_bind fun x7 hx7 => ?_
      refine q_J.step (fun g => j_if_f rfl (cc_ne_f h6) (j_aload_n rfl rfl (j_gfl rfl hx7 (j_ldc2 (9518 : Int64) rfl kw_9518 (j_lcmp rfl (g)))))) ?_
      refine J_ite (fun h8 => ?_) (fun h8 => ?_)
      · exact J_some (fun h => j_if_t rfl (lc_eq_t h8) (j_iconst (0 : Int32) rfl k32_0 (j_iret rfl (q_zr (Or.inl rfl)) h)))
      refine J_bind fun x9 hx9 => ?_
      refine q_J.step (fun g => j_if_f rfl (lc_eq_f h8) (j_aload_n rfl rfl (j_gfl rfl hx9 (j_ldc2 (12527906 : Int64) rfl kw_12527906 (j_lcmp rfl (g)))))) ?_
      refine J_ite (fun h10 => ?_) (fun h10 => ?_)
      · exact J_some (fun h => j_if_t rfl (lc_eq_t h10) (j_iconst (0 : Int32) rfl k32_0 (j_iret rfl (q_zr (Or.inl rfl)) h)))
      exact J_some (fun h => j_if_f rfl (lc_eq_f h10) (j_iconst (1 : Int32) rfl k32_1 (j_goto rfl (j_iret rfl (q_zr (Or.inr rfl)) h))))
    exact J_some (fun h => j_if_t rfl (cc_ne_t h6) (j_iconst (0 : Int32) rfl k32_0 (j_iret rfl (q_zr (Or.inl rfl)) h)))
  exact J_some (fun h => j_icmp_t rfl (cc_ne_t h2) (j_iconst (0 : Int32) rfl k32_0 (j_iret rfl (q_zr (Or.inl rfl)) h)))
theorem t_Mo_isName {fo : Option Nat} {d : Nat} (hd : 2 ≤ d) {v0 : Nat} {σ σ1 : q_H} {r : Int32} (h : f_Mo_isName v0 σ = some (r, σ1)) : q_Rel (q_rf fo) q_Ms d 190 [.ref v0] σ (.inl (some (.int r))) σ1 := by
  obtain ⟨d, rfl⟩ : ∃ d1, d = d1 + 1 := ⟨d - 1, by omega⟩
  exact q_Rel.of rfl rfl (b_Mo_isName hd _ σ _ _ h ⟨rfl, rfl⟩)

set_option maxRecDepth 100000 in
theorem b_Mo_sortOf {fo : Option Nat} {d : Nat} (hd : 2 ≤ d + 1) {o : q_O} {σ' : q_H} (v0 : Nat) (v1 : Int32) (v2 : Int32) (σ : q_H) : q_J (fun (r : Int32) (σ1 : q_H) => o = .inl (some (.int r)) ∧ σ' = σ1) (f_Mo_sortOf v0 v1 v2 σ) (q_G (q_rf fo) d m_Mo_sortOf o σ' 0 [some (.ref v0), some (.int v1), some (.int v2), none] [] σ) := by
  unfold f_Mo_sortOf
  refine J_bind fun w1 hw1 => ?_
  refine J_cl fun x3 σ2 hσ2 => ?_
  refine J_bind fun w4 hw4 => ?_
  refine J_cl fun x6 σ5 hσ5 => ?_
  refine q_J.step (fun g => j_aload_n rfl rfl (j_bipush (12 : Int32) rfl kb_12 (j_iload_n rfl rfl (j_imul rfl (j_iload_n rfl rfl (j_iadd rfl (j_aload_n rfl rfl (j_iload_n rfl rfl (j_iload_n rfl rfl (j_v1 [.ref v0, .int v1, .int v2] [.int (((12 : Int32) * v1) + v2), .ref v0] rfl rfl rfl rfl rfl rfl hw1 (Or.inl rfl) (t_Mo_husband (by omega) hσ2) (j_v1 [.ref v0, .int (((12 : Int32) * v1) + v2), .int x3] [] rfl rfl rfl rfl rfl rfl hw4 (Or.inl rfl) (t_Mo_kinOf (by omega) hσ5) (j_istore_n [some (.ref v0), some (.int v1), some (.int v2), some (.int x6)] rfl rfl (Or.inr rfl) rfl (j_iload_n rfl rfl (g)))))))))))))) ?_
  refine J_ite (fun h7 => ?_) (fun h7 => ?_)
  · exact J_some (fun h => j_if_f rfl (cc_le_f h7) (j_iconst (2 : Int32) rfl k32_2 (j_iload_n rfl rfl (j_isub rfl (j_iret rfl rfl h)))))
  refine J_bind fun x8 hx8 => ?_
  refine J_bind fun x9 hx9 => ?_
  refine J_bind fun x10 hx10 => ?_
  refine J_bind fun x11 hx11 => ?_
  refine q_J.step (fun g => j_if_t rfl (cc_le_t h7) (j_aload_n rfl rfl (j_gfr rfl hx8 (j_bipush (12 : Int32) rfl kb_12 (j_iload_n rfl rfl (j_imul rfl (j_iload_n rfl rfl (j_iadd rfl (j_ial rfl hx9 (j_aload_n rfl rfl (j_gfr rfl hx10 (j_bipush (12 : Int32) rfl kb_12 (j_iload_n rfl rfl (j_imul rfl (g))))))))))))))) ?_
  refine q_J.step (fun g => j_iload_n rfl rfl (j_iadd rfl (j_ial rfl hx11 (g)))) ?_
  refine J_ite (fun h12 => ?_) (fun h12 => ?_)
  · refine J_bind fun x13 hx13 => ?_
    refine J_bind fun x14 hx14 => ?_
    refine q_J.step (fun g => j_icmp_t rfl (cc_eq_t h12) (j_aload_n rfl rfl (j_gfr rfl hx13 (j_bipush (12 : Int32) rfl kb_12 (j_iload_n rfl rfl (j_imul rfl (j_iload_n rfl rfl (j_iadd rfl (j_ial rfl hx14 (j_iconst (1 : Int32) rfl k32_1 (j_iand rfl (j_iconst (1 : Int32) rfl k32_1 (g))))))))))))) ?_
    refine J_ite (fun h15 => ?_) (fun h15 => ?_)
    · exact J_some (fun h => j_icmp_f rfl (cc_ne_f h15) (j_iconst (3 : Int32) rfl k32_3 (j_goto rfl (j_iret rfl rfl h))))
    exact J_some (fun h => j_icmp_t rfl (cc_ne_t h15) (j_iconst (2 : Int32) rfl k32_2 (j_iret rfl rfl h)))
  exact J_some (fun h => j_icmp_f rfl (cc_eq_f h12) (j_iconst (4 : Int32) rfl k32_4 (j_iret rfl rfl h)))
theorem t_Mo_sortOf {fo : Option Nat} {d : Nat} (hd : 2 ≤ d) {v0 : Nat} {v1 : Int32} {v2 : Int32} {σ σ1 : q_H} {r : Int32} (h : f_Mo_sortOf v0 v1 v2 σ = some (r, σ1)) : q_Rel (q_rf fo) q_Ms d 201 [.ref v0, .int v1, .int v2] σ (.inl (some (.int r))) σ1 := by
  obtain ⟨d, rfl⟩ : ∃ d1, d = d1 + 1 := ⟨d - 1, by omega⟩
  exact q_Rel.of rfl rfl (b_Mo_sortOf hd _ _ _ σ _ _ h ⟨rfl, rfl⟩)

