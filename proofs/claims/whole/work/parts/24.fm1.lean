/-! Methods of the reference. -/
def f_Mo_init_L386 (v0 : Nat) : Nat → Int32 → q_H → Option ((Unit) × q_H)
  | 0, _, _ => none
  | n + 1, v1, σ => if v1 < (68 : Int32) then ((q_gr (q_gf σ 12 v0 30)).bind fun x140 => (q_sa σ 20 x140 v1 (.int (1000 : Int32))).bind fun σ141 => f_Mo_init_L386 v0 n (v1 + (1 : Int32)) σ141) else (some ((), σ))
set_option maxRecDepth 100000 in
theorem l_Mo_init_L386 {fo : Option Nat} {d : Nat} (hd : 1 ≤ d + 1) {o : q_O} {σ' : q_H} {E : (Unit) → q_H → Prop} (v0 : Nat) (hX : ∀ (t : Unit) σ1, E (t) σ1 → q_G (q_rf fo) d m_Mo_init o σ' 407 [none, none] [] σ1)  : ∀ (n : Nat) (v1 : Int32) (σ : q_H), q_J E (f_Mo_init_L386 v0 n v1 σ) (q_G (q_rf fo) d m_Mo_init o σ' 386 [some (.ref v0), some (.int v1)] [] σ)
  | 0, v1, σ => J_none
  | n + 1, v1, σ => by
    unfold f_Mo_init_L386
    refine q_J.step (fun g => j_iload_n rfl rfl (j_bipush (68 : Int32) rfl kb_68 (g))) ?_
    refine J_ite (fun h139 => ?_) (fun h139 => ?_)
    · refine J_bind fun x140 hx140 => ?_
      refine J_bind fun σ141 hσ141 => ?_
      exact q_J.step (fun g => j_icmp_f rfl (cc_ge_f h139) (j_aload_n rfl rfl (j_gfr rfl hx140 (j_iload_n rfl rfl (j_sipush (1000 : Int32) rfl ks_1000 (j_ias rfl hσ141 (j_iinc [some (.ref v0), some (.int (v1 + (1 : Int32)))] (v1 + (1 : Int32)) rfl rfl (by rw [k32_1]) (Or.inr rfl) rfl (j_goto rfl (g))))))))) (l_Mo_init_L386 hd v0 hX n (v1 + (1 : Int32)) σ141)
    exact J_some (fun h => j_icmp_t rfl (cc_ge_t h139) (j_weak (l := [none, none]) (And.intro (Or.inl rfl) (And.intro (Or.inl rfl) True.intro)) (hX _ _ h)))

def f_Mo_init (v0 : Nat) (σ : q_H) : Option ((Unit) × q_H) := q_ma σ 20 (List.replicate 6 (.int 0)) fun σ1 a2 => (q_sf σ1 12 v0 1 (.ref a2)).bind fun σ3 => q_ma σ3 22 (List.replicate 24 (.int 0)) fun σ4 a5 => (q_sf σ4 12 v0 2 (.ref a5)).bind fun σ6 => q_ma σ6 22 (List.replicate 24 (.int 0)) fun σ7 a8 => (q_sf σ7 12 v0 3 (.ref a8)).bind fun σ9 => q_ma σ9 20 (List.replicate 24 (.int 0)) fun σ10 a11 => (q_sf σ10 12 v0 4 (.ref a11)).bind fun σ12 => q_ma σ12 20 (List.replicate 24 (.int 0)) fun σ13 a14 => (q_sf σ13 12 v0 5 (.ref a14)).bind fun σ15 => q_ma σ15 20 (List.replicate 24 (.int 0)) fun σ16 a17 => (q_sf σ16 12 v0 6 (.ref a17)).bind fun σ18 => q_ma σ18 20 (List.replicate 25 (.int 0)) fun σ19 a20 => (q_sf σ19 12 v0 7 (.ref a20)).bind fun σ21 => q_ma σ21 20 (List.replicate 300 (.int 0)) fun σ22 a23 => (q_sf σ22 12 v0 8 (.ref a23)).bind fun σ24 => q_ma σ24 20 (List.replicate 300 (.int 0)) fun σ25 a26 => (q_sf σ25 12 v0 9 (.ref a26)).bind fun σ27 => q_ma σ27 20 (List.replicate 300 (.int 0)) fun σ28 a29 => (q_sf σ28 12 v0 10 (.ref a29)).bind fun σ30 => q_ma σ30 20 (List.replicate 300 (.int 0)) fun σ31 a32 => (q_sf σ31 12 v0 11 (.ref a32)).bind fun σ33 => q_ma σ33 20 (List.replicate 300 (.int 0)) fun σ34 a35 => (q_sf σ34 12 v0 12 (.ref a35)).bind fun σ36 => q_ma σ36 21 (List.replicate 300 (.long 0)) fun σ37 a38 => (q_sf σ37 12 v0 13 (.ref a38)).bind fun σ39 => q_ma σ39 21 (List.replicate 300 (.long 0)) fun σ40 a41 => (q_sf σ40 12 v0 14 (.ref a41)).bind fun σ42 => q_ma σ42 21 (List.replicate 300 (.long 0)) fun σ43 a44 => (q_sf σ43 12 v0 15 (.ref a44)).bind fun σ45 => q_ma σ45 20 (List.replicate 1000 (.int 0)) fun σ46 a47 => (q_sf σ46 12 v0 17 (.ref a47)).bind fun σ48 => q_ma σ48 20 (List.replicate 24 (.int 0)) fun σ49 a50 => (q_sf σ49 12 v0 27 (.ref a50)).bind fun σ51 => q_ma σ51 20 (List.replicate 68 (.int 0)) fun σ52 a53 => (q_sf σ52 12 v0 30 (.ref a53)).bind fun σ54 => q_ma σ54 20 (List.replicate 17 (.int 0)) fun σ55 a56 => (q_sf σ55 12 v0 31 (.ref a56)).bind fun σ57 => q_ma σ57 20 (List.replicate 4 (.int 0)) fun σ58 a59 => (q_sf σ58 12 v0 33 (.ref a59)).bind fun σ60 => q_ma σ60 20 (List.replicate 5 (.int 0)) fun σ61 a62 => (q_sf σ61 12 v0 35 (.ref a62)).bind fun σ63 => q_ma σ63 20 (List.replicate 30 (.int 0)) fun σ64 a65 => (q_sf σ64 12 v0 36 (.ref a65)).bind fun σ66 => q_ma σ66 20 (List.replicate 30 (.int 0)) fun σ67 a68 => (q_sf σ67 12 v0 37 (.ref a68)).bind fun σ69 => q_ma σ69 20 (List.replicate 5000 (.int 0)) fun σ70 a71 => (q_sf σ70 12 v0 38 (.ref a71)).bind fun σ72 => q_ma σ72 20 (List.replicate 7 (.int 0)) fun σ73 a74 => (q_sf σ73 12 v0 40 (.ref a74)).bind fun σ75 => q_ma σ75 22 (List.replicate 7 (.int 0)) fun σ76 a77 => (q_sf σ76 12 v0 41 (.ref a77)).bind fun σ78 => q_ma σ78 20 (List.replicate 7 (.int 0)) fun σ79 a80 => (q_sf σ79 12 v0 42 (.ref a80)).bind fun σ81 => q_ma σ81 20 (List.replicate 7 (.int 0)) fun σ82 a83 => (q_sf σ82 12 v0 43 (.ref a83)).bind fun σ84 => q_ma σ84 20 (List.replicate 7 (.int 0)) fun σ85 a86 => (q_sf σ85 12 v0 44 (.ref a86)).bind fun σ87 => q_ma σ87 20 (List.replicate 7 (.int 0)) fun σ88 a89 => (q_sf σ88 12 v0 45 (.ref a89)).bind fun σ90 => q_ma σ90 20 (List.replicate 7 (.int 0)) fun σ91 a92 => (q_sf σ91 12 v0 46 (.ref a92)).bind fun σ93 => q_ma σ93 20 (List.replicate 7 (.int 0)) fun σ94 a95 => (q_sf σ94 12 v0 47 (.ref a95)).bind fun σ96 => q_ma σ96 20 (List.replicate 7 (.int 0)) fun σ97 a98 => (q_sf σ97 12 v0 48 (.ref a98)).bind fun σ99 => q_ma σ99 20 (List.replicate 7 (.int 0)) fun σ100 a101 => (q_sf σ100 12 v0 49 (.ref a101)).bind fun σ102 => q_ma σ102 20 (List.replicate 7 (.int 0)) fun σ103 a104 => (q_sf σ103 12 v0 50 (.ref a104)).bind fun σ105 => q_ma σ105 20 (List.replicate 20 (.int 0)) fun σ106 a107 => (q_sf σ106 12 v0 51 (.ref a107)).bind fun σ108 => q_ma σ108 20 (List.replicate 6 (.int 0)) fun σ109 a110 => (q_sf σ109 12 v0 55 (.ref a110)).bind fun σ111 => q_ma σ111 22 (List.replicate 6 (.int 0)) fun σ112 a113 => (q_sf σ112 12 v0 56 (.ref a113)).bind fun σ114 => q_ma σ114 22 (List.replicate 6 (.int 0)) fun σ115 a116 => (q_sf σ115 12 v0 57 (.ref a116)).bind fun σ117 => q_ma σ117 20 (List.replicate 225 (.int 0)) fun σ118 a119 => (q_sf σ118 12 v0 59 (.ref a119)).bind fun σ120 => q_ma σ120 20 (List.replicate 225 (.int 0)) fun σ121 a122 => (q_sf σ121 12 v0 60 (.ref a122)).bind fun σ123 => q_ma σ123 22 (List.replicate 4 (.int 0)) fun σ124 a125 => (q_sf σ124 12 v0 61 (.ref a125)).bind fun σ126 => q_ma σ126 20 (List.replicate 24 (.int 0)) fun σ127 a128 => (q_sf σ127 12 v0 62 (.ref a128)).bind fun σ129 => q_ma σ129 20 (List.replicate 576 (.int 0)) fun σ130 a131 => (q_sf σ130 12 v0 63 (.ref a131)).bind fun σ132 => q_ma σ132 20 (List.replicate 5760 (.int 0)) fun σ133 a134 => (q_sf σ133 12 v0 64 (.ref a134)).bind fun σ135 => q_ma σ135 21 (List.replicate 3456 (.long 0)) fun σ136 a137 => (q_sf σ136 12 v0 65 (.ref a137)).bind fun σ138 => q_sq (f_Mo_init_L386 v0 q_FU (0 : Int32) σ138) fun (t142 : Unit) σ143 => some ((), σ143)
set_option maxRecDepth 100000 in
theorem b_Mo_init {fo : Option Nat} {d : Nat} (hd : 1 ≤ d + 1) {o : q_O} {σ' : q_H} (v0 : Nat) (σ : q_H) : q_J (fun (r : Unit) (σ1 : q_H) => o = .inl none ∧ σ' = σ1) (f_Mo_init v0 σ) (q_G (q_rf fo) d m_Mo_init o σ' 0 [some (.ref v0), none] [] σ) := by
  unfold f_Mo_init
  refine J_ma fun σ1 a2 hσ1 ha2 => ?_
  refine J_bind fun σ3 hσ3 => ?_
  refine J_ma fun σ4 a5 hσ4 ha5 => ?_
  refine J_bind fun σ6 hσ6 => ?_
  refine J_ma fun σ7 a8 hσ7 ha8 => ?_
  refine J_bind fun σ9 hσ9 => ?_
  refine J_ma fun σ10 a11 hσ10 ha11 => ?_
  refine J_bind fun σ12 hσ12 => ?_
  refine J_ma fun σ13 a14 hσ13 ha14 => ?_
  refine J_bind fun σ15 hσ15 => ?_
  refine J_ma fun σ16 a17 hσ16 ha17 => ?_
  refine J_bind fun σ18 hσ18 => ?_
  refine J_ma fun σ19 a20 hσ19 ha20 => ?_
  refine J_bind fun σ21 hσ21 => ?_
  refine J_ma fun σ22 a23 hσ22 ha23 => ?_
  refine J_bind fun σ24 hσ24 => ?_
  refine J_ma fun σ25 a26 hσ25 ha26 => ?_
  refine J_bind fun σ27 hσ27 => ?_
  refine J_ma fun σ28 a29 hσ28 ha29 => ?_
  refine J_bind fun σ30 hσ30 => ?_
  refine J_ma fun σ31 a32 hσ31 ha32 => ?_
  refine J_bind fun σ33 hσ33 => ?_
  refine J_ma fun σ34 a35 hσ34 ha35 => ?_
  refine J_bind fun σ36 hσ36 => ?_
  refine J_ma fun σ37 a38 hσ37 ha38 => ?_
  refine J_bind fun σ39 hσ39 => ?_
  refine J_ma fun σ40 a41 hσ40 ha41 => ?_
  refine J_bind fun σ42 hσ42 => ?_
  refine J_ma fun σ43 a44 hσ43 ha44 => ?_
  refine J_bind fun σ45 hσ45 => ?_
  refine J_ma fun σ46 a47 hσ46 ha47 => ?_
  refine J_bind fun σ48 hσ48 => ?_
  refine J_ma fun σ49 a50 hσ49 ha50 => ?_
  refine J_bind fun σ51 hσ51 => ?_
  refine J_ma fun σ52 a53 hσ52 ha53 => ?_
  refine J_bind fun σ54 hσ54 => ?_
  refine J_ma fun σ55 a56 hσ55 ha56 => ?_
  refine J_bind fun σ57 hσ57 => ?_
  refine J_ma fun σ58 a59 hσ58 ha59 => ?_
  refine J_bind fun σ60 hσ60 => ?_
  refine J_ma fun σ61 a62 hσ61 ha62 => ?_
  refine J_bind fun σ63 hσ63 => ?_
  refine J_ma fun σ64 a65 hσ64 ha65 => ?_
  refine J_bind fun σ66 hσ66 => ?_
  refine J_ma fun σ67 a68 hσ67 ha68 => ?_
  refine J_bind fun σ69 hσ69 => ?_
  refine J_ma fun σ70 a71 hσ70 ha71 => ?_
  refine J_bind fun σ72 hσ72 => ?_
  refine J_ma fun σ73 a74 hσ73 ha74 => ?_
  refine J_bind fun σ75 hσ75 => ?_
  refine J_ma fun σ76 a77 hσ76 ha77 => ?_
  refine J_bind fun σ78 hσ78 => ?_
  refine J_ma fun σ79 a80 hσ79 ha80 => ?_
  refine J_bind fun σ81 hσ81 => ?_
  refine J_ma fun σ82 a83 hσ82 ha83 => ?_
  refine J_bind fun σ84 hσ84 => ?_
  refine J_ma fun σ85 a86 hσ85 ha86 => ?_
  refine J_bind fun σ87 hσ87 => ?_
  refine J_ma fun σ88 a89 hσ88 ha89 => ?_
  refine J_bind fun σ90 hσ90 => ?_
  refine J_ma fun σ91 a92 hσ91 ha92 => ?_
  refine J_bind fun σ93 hσ93 => ?_
  refine J_ma fun σ94 a95 hσ94 ha95 => ?_
  refine J_bind fun σ96 hσ96 => ?_
  refine J_ma fun σ97 a98 hσ97 ha98 => ?_
  refine J_bind fun σ99 hσ99 => ?_
  refine J_ma fun σ100 a101 hσ100 ha101 => ?_
  refine J_bind fun σ102 hσ102 => ?_
  refine J_ma fun σ103 a104 hσ103 ha104 => ?_
  refine J_bind fun σ105 hσ105 => ?_
  refine J_ma fun σ106 a107 hσ106 ha107 => ?_
  refine J_bind fun σ108 hσ108 => ?_
  refine J_ma fun σ109 a110 hσ109 ha110 => ?_
  refine J_bind fun σ111 hσ111 => ?_
  refine J_ma fun σ112 a113 hσ112 ha113 => ?_
  refine J_bind fun σ114 hσ114 => ?_
  refine J_ma fun σ115 a116 hσ115 ha116 => ?_
  refine J_bind fun σ117 hσ117 => ?_
  refine J_ma fun σ118 a119 hσ118 ha119 => ?_
  refine J_bind fun σ120 hσ120 => ?_
  refine J_ma fun σ121 a122 hσ121 ha122 => ?_
  refine J_bind fun σ123 hσ123 => ?_
  refine J_ma fun σ124 a125 hσ124 ha125 => ?_
  refine J_bind fun σ126 hσ126 => ?_
  refine J_ma fun σ127 a128 hσ127 ha128 => ?_
  refine J_bind fun σ129 hσ129 => ?_
  refine J_ma fun σ130 a131 hσ130 ha131 => ?_
  refine J_bind fun σ132 hσ132 => ?_
  refine J_ma fun σ133 a134 hσ133 ha134 => ?_
  refine J_bind fun σ135 hσ135 => ?_
  refine J_ma fun σ136 a137 hσ136 ha137 => ?_
  refine J_bind fun σ138 hσ138 => ?_
  refine J_sq (fun (t142 : Unit) (σ143 : q_H) => q_G (q_rf fo) d m_Mo_init o σ' 407 [none, none] [] σ143) (q_J.step (fun g => j_aload_n rfl rfl (j_obj rfl rfl (j_aload_n rfl rfl (j_bipush (6 : Int32) rfl kb_6 (j_newk 6 (.int 0) rfl rfl rfl (by decide) (by decide) hσ1 ha2 (j_putf rfl rfl rfl rfl hσ3 (j_aload_n rfl rfl (j_bipush (24 : Int32) rfl kb_24 (j_newk 24 (.int 0) rfl rfl rfl (by decide) (by decide) hσ4 ha5 (j_putf rfl rfl rfl rfl hσ6 (j_aload_n rfl rfl (j_bipush (24 : Int32) rfl kb_24 (j_newk 24 (.int 0) rfl rfl rfl (by decide) (by decide) hσ7 ha8 (j_putf rfl rfl rfl rfl hσ9 (j_aload_n rfl rfl (j_bipush (24 : Int32) rfl kb_24 (j_newk 24 (.int 0) rfl rfl rfl (by decide) (by decide) hσ10 ha11 (j_putf rfl rfl rfl rfl hσ12 (j_aload_n rfl rfl (j_bipush (24 : Int32) rfl kb_24 (j_newk 24 (.int 0) rfl rfl rfl (by decide) (by decide) hσ13 ha14 (j_putf rfl rfl rfl rfl hσ15 (j_aload_n rfl rfl (j_bipush (24 : Int32) rfl kb_24 (j_newk 24 (.int 0) rfl rfl rfl (by decide) (by decide) hσ16 ha17 (j_putf rfl rfl rfl rfl hσ18 (j_aload_n rfl rfl (j_bipush (25 : Int32) rfl kb_25 (j_newk 25 (.int 0) rfl rfl rfl (by decide) (by decide) hσ19 ha20 (j_putf rfl rfl rfl rfl hσ21 (j_aload_n rfl rfl (j_sipush (300 : Int32) rfl ks_300 (j_newk 300 (.int 0) rfl rfl rfl (by decide) (by decide) hσ22 ha23 (j_putf rfl rfl rfl rfl hσ24 (j_aload_n rfl rfl (j_sipush (300 : Int32) rfl ks_300 (j_newk 300 (.int 0) rfl rfl rfl (by decide) (by decide) hσ25 ha26 (j_putf rfl rfl rfl rfl hσ27 (j_aload_n rfl rfl (j_sipush (300 : Int32) rfl ks_300 (j_newk 300 (.int 0) rfl rfl rfl (by decide) (by decide) hσ28 ha29 (j_putf rfl rfl rfl rfl hσ30 (j_aload_n rfl rfl (j_sipush (300 : Int32) rfl ks_300 (j_newk 300 (.int 0) rfl rfl rfl (by decide) (by decide) hσ31 ha32 (j_putf rfl rfl rfl rfl hσ33 (j_aload_n rfl rfl (j_sipush (300 : Int32) rfl ks_300 (j_newk 300 (.int 0) rfl rfl rfl (by decide) (by decide) hσ34 ha35 (j_putf rfl rfl rfl rfl hσ36 (j_aload_n rfl rfl (j_sipush (300 : Int32) rfl ks_300 (j_newk 300 (.long 0) rfl rfl rfl (by decide) (by decide) hσ37 ha38 (j_putf rfl rfl rfl rfl hσ39 (j_aload_n rfl rfl (j_sipush (300 : Int32) rfl ks_300 (j_newk 300 (.long 0) rfl rfl rfl (by decide) (by decide) hσ40 ha41 (j_putf rfl rfl rfl rfl hσ42 (j_aload_n rfl rfl (j_sipush (300 : Int32) rfl ks_300 (j_newk 300 (.long 0) rfl rfl rfl (by decide) (by decide) hσ43 ha44 (j_putf rfl rfl rfl rfl hσ45 (j_aload_n rfl rfl (j_sipush (1000 : Int32) rfl ks_1000 (j_newk 1000 (.int 0) rfl rfl rfl (by decide) (by decide) hσ46 ha47 (j_putf rfl rfl rfl rfl hσ48 (j_aload_n rfl rfl (j_bipush (24 : Int32) rfl kb_24 (j_newk 24 (.int 0) rfl rfl rfl (by decide) (by decide) hσ49 ha50 (j_putf rfl rfl rfl rfl hσ51 (j_aload_n rfl rfl (j_bipush (68 : Int32) rfl kb_68 (j_newk 68 (.int 0) rfl rfl rfl (by decide) (by decide) hσ52 ha53 (j_putf rfl rfl rfl rfl hσ54 (j_aload_n rfl rfl (j_bipush (17 : Int32) rfl kb_17 (j_newk 17 (.int 0) rfl rfl rfl (by decide) (by decide) hσ55 ha56 (j_putf rfl rfl rfl rfl hσ57 (j_aload_n rfl rfl (j_iconst (4 : Int32) rfl k32_4 (j_newk 4 (.int 0) rfl rfl rfl (by decide) (by decide) hσ58 ha59 (j_putf rfl rfl rfl rfl hσ60 (j_aload_n rfl rfl (j_iconst (5 : Int32) rfl k32_5 (j_newk 5 (.int 0) rfl rfl rfl (by decide) (by decide) hσ61 ha62 (j_putf rfl rfl rfl rfl hσ63 (j_aload_n rfl rfl (j_bipush (30 : Int32) rfl kb_30 (j_newk 30 (.int 0) rfl rfl rfl (by decide) (by decide) hσ64 ha65 (j_putf rfl rfl rfl rfl hσ66 (j_aload_n rfl rfl (j_bipush (30 : Int32) rfl kb_30 (j_newk 30 (.int 0) rfl rfl rfl (by decide) (by decide) hσ67 ha68 (j_putf rfl rfl rfl rfl hσ69 (j_aload_n rfl rfl (j_sipush (5000 : Int32) rfl ks_5000 (j_newk 5000 (.int 0) rfl rfl rfl (by decide) (by decide) hσ70 ha71 (j_putf rfl rfl rfl rfl hσ72 (j_aload_n rfl rfl (j_bipush (7 : Int32) rfl kb_7 (j_newk 7 (.int 0) rfl rfl rfl (by decide) (by decide) hσ73 ha74 (j_putf rfl rfl rfl rfl hσ75 (j_aload_n rfl rfl (j_bipush (7 : Int32) rfl kb_7 (j_newk 7 (.int 0) rfl rfl rfl (by decide) (by decide) hσ76 ha77 (j_putf rfl rfl rfl rfl hσ78 (j_aload_n rfl rfl (j_bipush (7 : Int32) rfl kb_7 (j_newk 7 (.int 0) rfl rfl rfl (by decide) (by decide) hσ79 ha80 (j_putf rfl rfl rfl rfl hσ81 (j_aload_n rfl rfl (j_bipush (7 : Int32) rfl kb_7 (j_newk 7 (.int 0) rfl rfl rfl (by decide) (by decide) hσ82 ha83 (j_putf rfl rfl rfl rfl hσ84 (j_aload_n rfl rfl (j_bipush (7 : Int32) rfl kb_7 (j_newk 7 (.int 0) rfl rfl rfl (by decide) (by decide) hσ85 ha86 (j_putf rfl rfl rfl rfl hσ87 (j_aload_n rfl rfl (j_bipush (7 : Int32) rfl kb_7 (j_newk 7 (.int 0) rfl rfl rfl (by decide) (by decide) hσ88 ha89 (j_putf rfl rfl rfl rfl hσ90 (j_aload_n rfl rfl (j_bipush (7 : Int32) rfl kb_7 (j_newk 7 (.int 0) rfl rfl rfl (by decide) (by decide) hσ91 ha92 (j_putf rfl rfl rfl rfl hσ93 (j_aload_n rfl rfl (j_bipush (7 : Int32) rfl kb_7 (j_newk 7 (.int 0) rfl rfl rfl (by decide) (by decide) hσ94 ha95 (j_putf rfl rfl rfl rfl hσ96 (j_aload_n rfl rfl (j_bipush (7 : Int32) rfl kb_7 (j_newk 7 (.int 0) rfl rfl rfl (by decide) (by decide) hσ97 ha98 (j_putf rfl rfl rfl rfl hσ99 (j_aload_n rfl rfl (j_bipush (7 : Int32) rfl kb_7 (j_newk 7 (.int 0) rfl rfl rfl (by decide) (by decide) hσ100 ha101 (j_putf rfl rfl rfl rfl hσ102 (j_aload_n rfl rfl (j_bipush (7 : Int32) rfl kb_7 (j_newk 7 (.int 0) rfl rfl rfl (by decide) (by decide) hσ103 ha104 (j_putf rfl rfl rfl rfl hσ105 (j_aload_n rfl rfl (j_bipush (20 : Int32) rfl kb_20 (j_newk 20 (.int 0) rfl rfl rfl (by decide) (by decide) hσ106 ha107 (j_putf rfl rfl rfl rfl hσ108 (j_aload_n rfl rfl (j_bipush (6 : Int32) rfl kb_6 (j_newk 6 (.int 0) rfl rfl rfl (by decide) (by decide) hσ109 ha110 (j_putf rfl rfl rfl rfl hσ111 (j_aload_n rfl rfl (j_bipush (6 : Int32) rfl kb_6 (j_newk 6 (.int 0) rfl rfl rfl (by decide) (by decide) hσ112 ha113 (j_putf rfl rfl rfl rfl hσ114 (j_aload_n rfl rfl (j_bipush (6 : Int32) rfl kb_6 (j_newk 6 (.int 0) rfl rfl rfl (by decide) (by decide) hσ115 ha116 (j_putf rfl rfl rfl rfl hσ117 (j_aload_n rfl rfl (j_sipush (225 : Int32) rfl ks_225 (j_newk 225 (.int 0) rfl rfl rfl (by decide) (by decide) hσ118 ha119 (j_putf rfl rfl rfl rfl hσ120 (j_aload_n rfl rfl (j_sipush (225 : Int32) rfl ks_225 (j_newk 225 (.int 0) rfl rfl rfl (by decide) (by decide) hσ121 ha122 (j_putf rfl rfl rfl rfl hσ123 (j_aload_n rfl rfl (j_iconst (4 : Int32) rfl k32_4 (j_newk 4 (.int 0) rfl rfl rfl (by decide) (by decide) hσ124 ha125 (j_putf rfl rfl rfl rfl hσ126 (j_aload_n rfl rfl (j_bipush (24 : Int32) rfl kb_24 (j_newk 24 (.int 0) rfl rfl rfl (by decide) (by decide) hσ127 ha128 (j_putf rfl rfl rfl rfl hσ129 (j_aload_n rfl rfl (j_sipush (576 : Int32) rfl ks_576 (j_newk 576 (.int 0) rfl rfl rfl (by decide) (by decide) hσ130 ha131 (j_putf rfl rfl rfl rfl hσ132 (j_aload_n rfl rfl (j_sipush (5760 : Int32) rfl ks_5760 (j_newk 5760 (.int 0) rfl rfl rfl (by decide) (by decide) hσ133 ha134 (j_putf rfl rfl rfl rfl hσ135 (j_aload_n rfl rfl (j_sipush (3456 : Int32) rfl ks_3456 (j_newk 3456 (.long 0) rfl rfl rfl (by decide) (by decide) hσ136 ha137 (j_putf rfl rfl rfl rfl hσ138 (j_iconst (0 : Int32) rfl k32_0 (j_istore_n [some (.ref v0), some (.int (0 : Int32))] rfl rfl (Or.inr rfl) rfl (g))))))))))))))))))))))))))))))))))))))))))))))))))))))))))))))))))))))))))))))))))))))))))))))))))))))))))))))))))))))))))))))))))))))))))))))))))))))))))))))))))))))))))))))))))))))))))))) (l_Mo_init_L386 hd v0 (fun _ _ h => h) q_FU (0 : Int32) σ138)) (fun t142 σ143 => ?_)
  exact J_some (fun h => j_vret rfl rfl h)
theorem t_Mo_init {fo : Option Nat} {d : Nat} (hd : 1 ≤ d) {v0 : Nat} {σ σ1 : q_H} {r : Unit} (h : f_Mo_init v0 σ = some (r, σ1)) : q_Rel (q_rf fo) q_Ms d 169 [.ref v0] σ (.inl none) σ1 := by
  obtain ⟨d, rfl⟩ : ∃ d1, d = d1 + 1 := ⟨d - 1, by omega⟩
  exact q_Rel.of rfl rfl (b_Mo_init hd _ σ _ _ h ⟨rfl, rfl⟩)

def f_Mo_thrown (v0 : Nat) (σ : q_H) : Option ((Int32) × q_H) := (q_gi (q_gf σ 12 v0 0)).bind fun x1 => some (x1, σ)
set_option maxRecDepth 100000 in
theorem b_Mo_thrown {fo : Option Nat} {d : Nat} (hd : 1 ≤ d + 1) {o : q_O} {σ' : q_H} (v0 : Nat) (σ : q_H) : q_J (fun (r : Int32) (σ1 : q_H) => o = .inl (some (.int r)) ∧ σ' = σ1) (f_Mo_thrown v0 σ) (q_G (q_rf fo) d m_Mo_thrown o σ' 0 [some (.ref v0)] [] σ) := by
  unfold f_Mo_thrown
  refine J_bind fun x1 hx1 => ?_
  exact J_some (fun h => j_aload_n rfl rfl (j_gfi rfl hx1 (j_iret rfl rfl h)))
theorem t_Mo_thrown {fo : Option Nat} {d : Nat} (hd : 1 ≤ d) {v0 : Nat} {σ σ1 : q_H} {r : Int32} (h : f_Mo_thrown v0 σ = some (r, σ1)) : q_Rel (q_rf fo) q_Ms d 170 [.ref v0] σ (.inl (some (.int r))) σ1 := by
  obtain ⟨d, rfl⟩ : ∃ d1, d = d1 + 1 := ⟨d - 1, by omega⟩
  exact q_Rel.of rfl rfl (b_Mo_thrown hd _ σ _ _ h ⟨rfl, rfl⟩)

def f_Mo_within (v0 : Int32) (v1 : Int32) (v2 : Int32) (σ : q_H) : Option ((Int32) × q_H) := if v0 < v1 then (some ((0 : Int32), σ)) else (if v2 < v0 then (some ((0 : Int32), σ)) else (some ((1 : Int32), σ)))
set_option maxRecDepth 100000 in
theorem b_Mo_within {fo : Option Nat} {d : Nat} (hd : 1 ≤ d + 1) {o : q_O} {σ' : q_H} (v0 : Int32) (v1 : Int32) (v2 : Int32) (σ : q_H) : q_J (fun (r : Int32) (σ1 : q_H) => o = .inl (some (.int r)) ∧ σ' = σ1) (f_Mo_within v0 v1 v2 σ) (q_G (q_rf fo) d m_Mo_within o σ' 0 [some (.int v0), some (.int v1), some (.int v2)] [] σ) := by
  unfold f_Mo_within
  refine q_J.step (fun g => j_iload_n rfl rfl (j_iload_n rfl rfl (g))) ?_
  refine J_ite (fun h1 => ?_) (fun h1 => ?_)
  · exact J_some (fun h => j_icmp_t rfl (cc_lt_t h1) (j_iconst (0 : Int32) rfl k32_0 (j_iret rfl (q_zr (Or.inl rfl)) h)))
  refine q_J.step (fun g => j_icmp_f rfl (cc_lt_f h1) (j_iload_n rfl rfl (j_iload_n rfl rfl (g)))) ?_
  refine J_ite (fun h2 => ?_) (fun h2 => ?_)
  · exact J_some (fun h => j_icmp_t rfl (cc_gt_t h2) (j_iconst (0 : Int32) rfl k32_0 (j_iret rfl (q_zr (Or.inl rfl)) h)))
  exact J_some (fun h => j_icmp_f rfl (cc_gt_f h2) (j_iconst (1 : Int32) rfl k32_1 (j_goto rfl (j_iret rfl (q_zr (Or.inr rfl)) h))))
theorem t_Mo_within {fo : Option Nat} {d : Nat} (hd : 1 ≤ d) {v0 : Int32} {v1 : Int32} {v2 : Int32} {σ σ1 : q_H} {r : Int32} (h : f_Mo_within v0 v1 v2 σ = some (r, σ1)) : q_Rel (q_rf fo) q_Ms d 172 [.int v0, .int v1, .int v2] σ (.inl (some (.int r))) σ1 := by
  obtain ⟨d, rfl⟩ : ∃ d1, d = d1 + 1 := ⟨d - 1, by omega⟩
  exact q_Rel.of rfl rfl (b_Mo_within hd _ _ _ σ _ _ h ⟨rfl, rfl⟩)

def f_Mo_wide (v0 : Int32) (σ : q_H) : Option ((Int32) × q_H) := if v0 < (10 : Int32) then (some ((0 : Int32), σ)) else (if (v0 - v0 / (5 : Int32) * (5 : Int32)) = (0 : Int32) then (some ((4 : Int32), σ)) else (some ((0 : Int32), σ)))
set_option maxRecDepth 100000 in
theorem b_Mo_wide {fo : Option Nat} {d : Nat} (hd : 1 ≤ d + 1) {o : q_O} {σ' : q_H} (v0 : Int32) (σ : q_H) : q_J (fun (r : Int32) (σ1 : q_H) => o = .inl (some (.int r)) ∧ σ' = σ1) (f_Mo_wide v0 σ) (q_G (q_rf fo) d m_Mo_wide o σ' 0 [some (.int v0)] [] σ) := by
  unfold f_Mo_wide
  refine q_J.step (fun g => j_iload_n rfl rfl (j_bipush (10 : Int32) rfl kb_10 (g))) ?_
  refine J_ite (fun h1 => ?_) (fun h1 => ?_)
  · exact J_some (fun h => j_icmp_t rfl (cc_lt_t h1) (j_iconst (0 : Int32) rfl k32_0 (j_iret rfl rfl h)))
  refine q_J.step (fun g => j_icmp_f rfl (cc_lt_f h1) (j_iload_n rfl rfl (j_iconst (5 : Int32) rfl k32_5 (j_irem rfl (by decide) (g))))) ?_
  refine J_ite (fun h2 => ?_) (fun h2 => ?_)
  · exact J_some (fun h => j_if_f rfl (cc_ne_f h2) (j_iconst (4 : Int32) rfl k32_4 (j_goto rfl (j_iret rfl rfl h))))
  exact J_some (fun h => j_if_t rfl (cc_ne_t h2) (j_iconst (0 : Int32) rfl k32_0 (j_iret rfl rfl h)))
theorem t_Mo_wide {fo : Option Nat} {d : Nat} (hd : 1 ≤ d) {v0 : Int32} {σ σ1 : q_H} {r : Int32} (h : f_Mo_wide v0 σ = some (r, σ1)) : q_Rel (q_rf fo) q_Ms d 181 [.int v0] σ (.inl (some (.int r))) σ1 := by
  obtain ⟨d, rfl⟩ : ∃ d1, d = d1 + 1 := ⟨d - 1, by omega⟩
  exact q_Rel.of rfl rfl (b_Mo_wide hd _ σ _ _ h ⟨rfl, rfl⟩)

def f_Mo_feed_L8 (v0 : Nat) (v1 : Int64) (v3 : Int64) (v5 : Int64) : Nat → Int32 → q_H → Option ((Unit) × q_H)
  | 0, _, _ => none
  | n + 1, v7, σ => if v7 < (24 : Int32) then (q_sq (if v7 < (8 : Int32) then (some (v1, σ)) else (if v7 < (16 : Int32) then (some (v3, σ)) else (some (v5, σ)))) fun (t5 : Int64) σ6 => (q_gi (q_gf σ6 12 v0 16)).bind fun x7 => if x7 < (1000 : Int32) then (if ((((t5.toUInt64 >>> (((56 : Int32) - ((8 : Int32) * (v7 &&& (7 : Int32)))).toInt64.toUInt64 &&& Int64.toUInt64 63)).toInt64) &&& (255 : Int64)).toInt32) = (10 : Int32) then ((q_gr (q_gf σ6 12 v0 17)).bind fun x10 => (q_gi (q_gf σ6 12 v0 16)).bind fun x11 => (q_sa σ6 20 x10 x11 (.int ((((t5.toUInt64 >>> (((56 : Int32) - ((8 : Int32) * (v7 &&& (7 : Int32)))).toInt64.toUInt64 &&& Int64.toUInt64 63)).toInt64) &&& (255 : Int64)).toInt32))).bind fun σ12 => (q_gi (q_gf σ12 12 v0 16)).bind fun x13 => (q_sf σ12 12 v0 16 (.int (x13 + (1 : Int32)))).bind fun σ14 => f_Mo_feed_L8 v0 v1 v3 v5 n (v7 + (1 : Int32)) σ14) else (if ((((t5.toUInt64 >>> (((56 : Int32) - ((8 : Int32) * (v7 &&& (7 : Int32)))).toInt64.toUInt64 &&& Int64.toUInt64 63)).toInt64) &&& (255 : Int64)).toInt32) < (32 : Int32) then (f_Mo_feed_L8 v0 v1 v3 v5 n (v7 + (1 : Int32)) σ6) else (if (126 : Int32) < ((((t5.toUInt64 >>> (((56 : Int32) - ((8 : Int32) * (v7 &&& (7 : Int32)))).toInt64.toUInt64 &&& Int64.toUInt64 63)).toInt64) &&& (255 : Int64)).toInt32) then (f_Mo_feed_L8 v0 v1 v3 v5 n (v7 + (1 : Int32)) σ6) else ((q_gr (q_gf σ6 12 v0 17)).bind fun x17 => (q_gi (q_gf σ6 12 v0 16)).bind fun x18 => (q_sa σ6 20 x17 x18 (.int ((((t5.toUInt64 >>> (((56 : Int32) - ((8 : Int32) * (v7 &&& (7 : Int32)))).toInt64.toUInt64 &&& Int64.toUInt64 63)).toInt64) &&& (255 : Int64)).toInt32))).bind fun σ19 => (q_gi (q_gf σ19 12 v0 16)).bind fun x20 => (q_sf σ19 12 v0 16 (.int (x20 + (1 : Int32)))).bind fun σ21 => f_Mo_feed_L8 v0 v1 v3 v5 n (v7 + (1 : Int32)) σ21)))) else (f_Mo_feed_L8 v0 v1 v3 v5 n (v7 + (1 : Int32)) σ6)) else (some ((), σ))
set_option maxRecDepth 100000 in
theorem l_Mo_feed_L8 {fo : Option Nat} {d : Nat} (hd : 1 ≤ d + 1) {o : q_O} {σ' : q_H} {E : (Unit) → q_H → Prop} (v0 : Nat) (v1 : Int64) (v3 : Int64) (v5 : Int64) (hX : ∀ (t : Unit) σ1, E (t) σ1 → q_G (q_rf fo) d m_Mo_feed o σ' 120 [some (.ref v0), none, none, none, none, none, none, none, none, none, none] [] σ1)  : ∀ (n : Nat) (v7 : Int32) (σ : q_H), q_J E (f_Mo_feed_L8 v0 v1 v3 v5 n v7 σ) (q_G (q_rf fo) d m_Mo_feed o σ' 8 [some (.ref v0), some (.long v1), none, some (.long v3), none, some (.long v5), none, some (.int v7), none, none, none] [] σ)
  | 0, v7, σ => J_none
  | n + 1, v7, σ => by
    unfold f_Mo_feed_L8
    refine q_J.step (fun g => j_iload rfl rfl (j_bipush (24 : Int32) rfl kb_24 (g))) ?_
    refine J_ite (fun h2 => ?_) (fun h2 => ?_)
    · refine q_J.step (fun g => j_icmp_f rfl (cc_ge_f h2) (j_iload rfl rfl (j_bipush (8 : Int32) rfl kb_8 (g)))) ?_
      refine J_sq (fun (t5 : Int64) (σ6 : q_H) => q_G (q_rf fo) d m_Mo_feed o σ' 39 [some (.ref v0), some (.long v1), none, some (.long v3), none, some (.long v5), none, some (.int v7), none, none, none] [.long t5] σ6) ?_ (fun t5 σ6 => ?_)
      · refine J_ite (fun h3 => ?_) (fun h3 => ?_)
        · exact J_some (fun h => j_icmp_f rfl (cc_ge_f h3) (j_lload_n rfl rfl (j_goto rfl (h))))
        refine q_J.step (fun g => j_icmp_t rfl (cc_ge_t h3) (j_iload rfl rfl (j_bipush (16 : Int32) rfl kb_16 (g)))) ?_
        refine J_ite (fun h4 => ?_) (fun h4 => ?_)
        · exact J_some (fun h => j_icmp_f rfl (cc_ge_f h4) (j_lload_n rfl rfl (j_goto rfl (h))))
        exact J_some (fun h => j_icmp_t rfl (cc_ge_t h4) (j_lload rfl rfl (h)))
      refine J_bind fun x7 hx7 => ?_
      refine q_J.step (fun g => j_lstore [some (.ref v0), some (.long v1), none, some (.long v3), none, some (.long v5), none, some (.int v7), some (.long t5), none, none] rfl rfl (Or.inr rfl) rfl (j_lload rfl rfl (j_bipush (56 : Int32) rfl kb_56 (j_bipush (8 : Int32) rfl kb_8 (j_iload rfl rfl (j_bipush (7 : Int32) rfl kb_7 (j_iand rfl (j_imul rfl (j_isub rfl (j_lushr rfl (j_ldc2 (255 : Int64) rfl kw_255 (j_land rfl (j_l2i rfl (j_istore [some (.ref v0), some (.long v1), none, some (.long v3), none, some (.long v5), none, some (.int v7), some (.long t5), none, some (.int ((((t5.toUInt64 >>> (((56 : Int32) - ((8 : Int32) * (v7 &&& (7 : Int32)))).toInt64.toUInt64 &&& Int64.toUInt64 63)).toInt64) &&& (255 : Int64)).toInt32))] rfl rfl (Or.inr True.intro) rfl (g))))))))))))))) ?_
      refine q_J.step (fun g => j_aload_n rfl rfl (j_gfi rfl hx7 (j_sipush (1000 : Int32) rfl ks_1000 (g)))) ?_
      refine J_ite (fun h8 => ?_) (fun h8 => ?_)
      · refine q_J.step (fun g => j_icmp_f rfl (cc_ge_f h8) (j_iload rfl rfl (j_bipush (10 : Int32) rfl kb_10 (g)))) ?_
        refine J_ite (fun h9 => ?_) (fun h9 => ?_)
        · refine J_bind fun x10 hx10 => ?_
          refine J_bind fun x11 hx11 => ?_
          refine J_bind fun σ12 hσ12 => ?_
          refine J_bind fun x13 hx13 => ?_
          refine J_bind fun σ14 hσ14 => ?_
          exact q_J.step (fun g => j_icmp_t rfl (cc_eq_t h9) (j_aload_n rfl rfl (j_gfr rfl hx10 (j_aload_n rfl rfl (j_gfi rfl hx11 (j_iload rfl rfl (j_ias rfl hσ12 (j_aload_n rfl rfl (j_dup rfl rfl (j_gfi rfl hx13 (j_iconst (1 : Int32) rfl k32_1 (j_iadd rfl (j_putf rfl rfl rfl rfl hσ14 (j_iinc [some (.ref v0), some (.long v1), none, some (.long v3), none, some (.long v5), none, some (.int (v7 + (1 : Int32))), some (.long t5), none, some (.int ((((t5.toUInt64 >>> (((56 : Int32) - ((8 : Int32) * (v7 &&& (7 : Int32)))).toInt64.toUInt64 &&& Int64.toUInt64 63)).toInt64) &&& (255 : Int64)).toInt32))] (v7 + (1 : Int32)) rfl rfl (by rw [k32_1]) (Or.inr True.intro) rfl (j_goto rfl (j_weak (l := [some (.ref v0), some (.long v1), none, some (.long v3), none, some (.long v5), none, some (.int (v7 + (1 : Int32))), none, none, none]) (And.intro (Or.inr rfl) (And.intro (Or.inr rfl) (And.intro (Or.inr rfl) (And.intro (Or.inr rfl) (And.intro (Or.inr rfl) (And.intro (Or.inr rfl) (And.intro (Or.inr rfl) (And.intro (Or.inr rfl) (And.intro (Or.inl rfl) (And.intro (Or.inr rfl) (And.intro (Or.inl rfl) True.intro))))))))))) (g))))))))))))))))) (l_Mo_feed_L8 hd v0 v1 v3 v5 hX n (v7 + (1 : Int32)) σ14)
        refine q_J.step (fun g => j_icmp_f rfl (cc_eq_f h9) (j_iload rfl rfl (j_bipush (32 : Int32) rfl kb_32 (g)))) ?_
        refine J_ite (fun h15 => ?_) (fun h15 => ?_)
        · exact q_J.step (fun g => j_icmp_t rfl (cc_lt_t h15) (j_iinc [some (.ref v0), some (.long v1), none, some (.long v3), none, some (.long v5), none, some (.int (v7 + (1 : Int32))), some (.long t5), none, some (.int ((((t5.toUInt64 >>> (((56 : Int32) - ((8 : Int32) * (v7 &&& (7 : Int32)))).toInt64.toUInt64 &&& Int64.toUInt64 63)).toInt64) &&& (255 : Int64)).toInt32))] (v7 + (1 : Int32)) rfl rfl (by rw [k32_1]) (Or.inr True.intro) rfl (j_goto rfl (j_weak (l := [some (.ref v0), some (.long v1), none, some (.long v3), none, some (.long v5), none, some (.int (v7 + (1 : Int32))), none, none, none]) (And.intro (Or.inr rfl) (And.intro (Or.inr rfl) (And.intro (Or.inr rfl) (And.intro (Or.inr rfl) (And.intro (Or.inr rfl) (And.intro (Or.inr rfl) (And.intro (Or.inr rfl) (And.intro (Or.inr rfl) (And.intro (Or.inl rfl) (And.intro (Or.inr rfl) (And.intro (Or.inl rfl) True.intro))))))))))) (g))))) (l_Mo_feed_L8 hd v0 v1 v3 v5 hX n (v7 + (1 : Int32)) σ6)
        refine q_J.step (fun g => j_icmp_f rfl (cc_lt_f h15) (j_iload rfl rfl (j_bipush (126 : Int32) rfl kb_126 (g)))) ?_
        refine J_ite (fun h16 => ?_) (fun h16 => ?_)
        · exact q_J.step (fun g => j_icmp_t rfl (cc_gt_t h16) (j_iinc [some (.ref v0), some (.long v1), none, some (.long v3), none, some (.long v5), none, some (.int (v7 + (1 : Int32))), some (.long t5), none, some (.int ((((t5.toUInt64 >>> (((56 : Int32) - ((8 : Int32) * (v7 &&& (7 : Int32)))).toInt64.toUInt64 &&& Int64.toUInt64 63)).toInt64) &&& (255 : Int64)).toInt32))] (v7 + (1 : Int32)) rfl rfl (by rw [k32_1]) (Or.inr True.intro) rfl (j_goto rfl (j_weak (l := [some (.ref v0), some (.long v1), none, some (.long v3), none, some (.long v5), none, some (.int (v7 + (1 : Int32))), none, none, none]) (And.intro (Or.inr rfl) (And.intro (Or.inr rfl) (And.intro (Or.inr rfl) (And.intro (Or.inr rfl) (And.intro (Or.inr rfl) (And.intro (Or.inr rfl) (And.intro (Or.inr rfl) (And.intro (Or.inr rfl) (And.intro (Or.inl rfl) (And.intro (Or.inr rfl) (And.intro (Or.inl rfl) True.intro))))))))))) (g))))) (l_Mo_feed_L8 hd v0 v1 v3 v5 hX n (v7 + (1 : Int32)) σ6)
        refine J_bind fun x17 hx17 => ?_
        refine J_bind fun x18 hx18 => ?_
        refine J_bind fun σ19 hσ19 => ?_
        refine J_bind fun x20 hx20 => ?_
        refine J_bind fun σ21 hσ21 => ?_
        exact q_J.step (fun g => j_icmp_f rfl (cc_gt_f h16) (j_aload_n rfl rfl (j_gfr rfl hx17 (j_aload_n rfl rfl (j_gfi rfl hx18 (j_iload rfl rfl (j_ias rfl hσ19 (j_aload_n rfl rfl (j_dup rfl rfl (j_gfi rfl hx20 (j_iconst (1 : Int32) rfl k32_1 (j_iadd rfl (j_putf rfl rfl rfl rfl hσ21 (j_iinc [some (.ref v0), some (.long v1), none, some (.long v3), none, some (.long v5), none, some (.int (v7 + (1 : Int32))), some (.long t5), none, some (.int ((((t5.toUInt64 >>> (((56 : Int32) - ((8 : Int32) * (v7 &&& (7 : Int32)))).toInt64.toUInt64 &&& Int64.toUInt64 63)).toInt64) &&& (255 : Int64)).toInt32))] (v7 + (1 : Int32)) rfl rfl (by rw [k32_1]) (Or.inr True.intro) rfl (j_goto rfl (j_weak (l := [some (.ref v0), some (.long v1), none, some (.long v3), none, some (.long v5), none, some (.int (v7 + (1 : Int32))), none, none, none]) (And.intro (Or.inr rfl) (And.intro (Or.inr rfl) (And.intro (Or.inr rfl) (And.intro (Or.inr rfl) (And.intro (Or.inr rfl) (And.intro (Or.inr rfl) (And.intro (Or.inr rfl) (And.intro (Or.inr rfl) (And.intro (Or.inl rfl) (And.intro (Or.inr rfl) (And.intro (Or.inl rfl) True.intro))))))))))) (g))))))))))))))))) (l_Mo_feed_L8 hd v0 v1 v3 v5 hX n (v7 + (1 : Int32)) σ21)
      exact q_J.step (fun g => j_icmp_t rfl (cc_ge_t h8) (j_iinc [some (.ref v0), some (.long v1), none, some (.long v3), none, some (.long v5), none, some (.int (v7 + (1 : Int32))), some (.long t5), none, some (.int ((((t5.toUInt64 >>> (((56 : Int32) - ((8 : Int32) * (v7 &&& (7 : Int32)))).toInt64.toUInt64 &&& Int64.toUInt64 63)).toInt64) &&& (255 : Int64)).toInt32))] (v7 + (1 : Int32)) rfl rfl (by rw [k32_1]) (Or.inr True.intro) rfl (j_goto rfl (j_weak (l := [some (.ref v0), some (.long v1), none, some (.long v3), none, some (.long v5), none, some (.int (v7 + (1 : Int32))), none, none, none]) (And.intro (Or.inr rfl) (And.intro (Or.inr rfl) (And.intro (Or.inr rfl) (And.intro (Or.inr rfl) (And.intro (Or.inr rfl) (And.intro (Or.inr rfl) (And.intro (Or.inr rfl) (And.intro (Or.inr rfl) (And.intro (Or.inl rfl) (And.intro (Or.inr rfl) (And.intro (Or.inl rfl) True.intro))))))))))) (g))))) (l_Mo_feed_L8 hd v0 v1 v3 v5 hX n (v7 + (1 : Int32)) σ6)
    exact J_some (fun h => j_icmp_t rfl (cc_ge_t h2) (j_weak (l := [some (.ref v0), none, none, none, none, none, none, none, none, none, none]) (And.intro (Or.inr rfl) (And.intro (Or.inl rfl) (And.intro (Or.inr rfl) (And.intro (Or.inl rfl) (And.intro (Or.inr rfl) (And.intro (Or.inl rfl) (And.intro (Or.inr rfl) (And.intro (Or.inl rfl) (And.intro (Or.inr rfl) (And.intro (Or.inr rfl) (And.intro (Or.inr rfl) True.intro))))))))))) (hX _ _ h)))

def f_Mo_feed (v0 : Nat) (v1 : Int64) (v3 : Int64) (v5 : Int64) (σ : q_H) : Option ((Int32) × q_H) := (q_sf σ 12 v0 0 (.int (0 : Int32))).bind fun σ1 => q_sq (f_Mo_feed_L8 v0 v1 v3 v5 q_FU (0 : Int32) σ1) fun (t22 : Unit) σ23 => (q_gi (q_gf σ23 12 v0 16)).bind fun x24 => some (x24, σ23)
set_option maxRecDepth 100000 in
theorem b_Mo_feed {fo : Option Nat} {d : Nat} (hd : 1 ≤ d + 1) {o : q_O} {σ' : q_H} (v0 : Nat) (v1 : Int64) (v3 : Int64) (v5 : Int64) (σ : q_H) : q_J (fun (r : Int32) (σ1 : q_H) => o = .inl (some (.int r)) ∧ σ' = σ1) (f_Mo_feed v0 v1 v3 v5 σ) (q_G (q_rf fo) d m_Mo_feed o σ' 0 [some (.ref v0), some (.long v1), none, some (.long v3), none, some (.long v5), none, none, none, none, none] [] σ) := by
  unfold f_Mo_feed
  refine J_bind fun σ1 hσ1 => ?_
  refine J_sq (fun (t22 : Unit) (σ23 : q_H) => q_G (q_rf fo) d m_Mo_feed o σ' 120 [some (.ref v0), none, none, none, none, none, none, none, none, none, none] [] σ23) (q_J.step (fun g => j_aload_n rfl rfl (j_iconst (0 : Int32) rfl k32_0 (j_putf rfl rfl rfl rfl hσ1 (j_iconst (0 : Int32) rfl k32_0 (j_istore [some (.ref v0), some (.long v1), none, some (.long v3), none, some (.long v5), none, some (.int (0 : Int32)), none, none, none] rfl rfl (Or.inr True.intro) rfl (g)))))) (l_Mo_feed_L8 hd v0 v1 v3 v5 (fun _ _ h => h) q_FU (0 : Int32) σ1)) (fun t22 σ23 => ?_)
  refine J_bind fun x24 hx24 => ?_
  exact J_some (fun h => j_aload_n rfl rfl (j_gfi rfl hx24 (j_iret rfl rfl h)))
theorem t_Mo_feed {fo : Option Nat} {d : Nat} (hd : 1 ≤ d) {v0 : Nat} {v1 : Int64} {v3 : Int64} {v5 : Int64} {σ σ1 : q_H} {r : Int32} (h : f_Mo_feed v0 v1 v3 v5 σ = some (r, σ1)) : q_Rel (q_rf fo) q_Ms d 182 [.ref v0, .long v1, .long v3, .long v5] σ (.inl (some (.int r))) σ1 := by
  obtain ⟨d, rfl⟩ : ∃ d1, d = d1 + 1 := ⟨d - 1, by omega⟩
  exact q_Rel.of rfl rfl (b_Mo_feed hd _ _ _ _ σ _ _ h ⟨rfl, rfl⟩)

def f_Mo_signAt (v0 : Nat) (v1 : Int32) (σ : q_H) : Option ((Int32) × q_H) := (q_gi (q_gf σ 12 v0 18)).bind fun x1 => if v1 < x1 then ((q_gr (q_gf σ 12 v0 17)).bind fun x3 => (q_gi (q_ga σ 20 x3 v1)).bind fun x4 => some (x4, σ)) else (some ((0 : Int32), σ))
set_option maxRecDepth 100000 in
theorem b_Mo_signAt {fo : Option Nat} {d : Nat} (hd : 1 ≤ d + 1) {o : q_O} {σ' : q_H} (v0 : Nat) (v1 : Int32) (σ : q_H) : q_J (fun (r : Int32) (σ1 : q_H) => o = .inl (some (.int r)) ∧ σ' = σ1) (f_Mo_signAt v0 v1 σ) (q_G (q_rf fo) d m_Mo_signAt o σ' 0 [some (.ref v0), some (.int v1)] [] σ) := by
  unfold f_Mo_signAt
  refine J_bind fun x1 hx1 => ?_
  refine q_J.step (fun g => j_iload_n rfl rfl (j_aload_n rfl rfl (j_gfi rfl hx1 (g)))) ?_
  refine J_ite (fun h2 => ?_) (fun h2 => ?_)
  · refine J_bind fun x3 hx3 => ?_
    refine J_bind fun x4 hx4 => ?_
    exact J_some (fun h => j_icmp_f rfl (cc_ge_f h2) (j_aload_n rfl rfl (j_gfr rfl hx3 (j_iload_n rfl rfl (j_ial rfl hx4 (j_goto rfl (j_iret rfl rfl h)))))))
  exact J_some (fun h => j_icmp_t rfl (cc_ge_t h2) (j_iconst (0 : Int32) rfl k32_0 (j_iret rfl rfl h)))
theorem t_Mo_signAt {fo : Option Nat} {d : Nat} (hd : 1 ≤ d) {v0 : Nat} {v1 : Int32} {σ σ1 : q_H} {r : Int32} (h : f_Mo_signAt v0 v1 σ = some (r, σ1)) : q_Rel (q_rf fo) q_Ms d 186 [.ref v0, .int v1] σ (.inl (some (.int r))) σ1 := by
  obtain ⟨d, rfl⟩ : ∃ d1, d = d1 + 1 := ⟨d - 1, by omega⟩
  exact q_Rel.of rfl rfl (b_Mo_signAt hd _ _ σ _ _ h ⟨rfl, rfl⟩)

def f_Mo_isWord (v0 : Nat) (v1 : Int64) (σ : q_H) : Option ((Int32) × q_H) := (q_gi (q_gf σ 12 v0 21)).bind fun x1 => if x1 = (1 : Int32) then ((q_gl' (q_gf σ 12 v0 22)).bind fun x3 => if x3 = v1 then (some ((1 : Int32), σ)) else (some ((0 : Int32), σ))) else (some ((0 : Int32), σ))
set_option maxRecDepth 100000 in
theorem b_Mo_isWord {fo : Option Nat} {d : Nat} (hd : 1 ≤ d + 1) {o : q_O} {σ' : q_H} (v0 : Nat) (v1 : Int64) (σ : q_H) : q_J (fun (r : Int32) (σ1 : q_H) => o = .inl (some (.int r)) ∧ σ' = σ1) (f_Mo_isWord v0 v1 σ) (q_G (q_rf fo) d m_Mo_isWord o σ' 0 [some (.ref v0), some (.long v1), none] [] σ) := by
  unfold f_Mo_isWord
  refine J_bind fun x1 hx1 => ?_
  refine q_J.step (fun g => j_aload_n rfl rfl (j_gfi rfl hx1 (j_iconst (1 : Int32) rfl k32_1 (g)))) ?_
  refine J_ite (fun h2 => ?_) (fun h2 => ?_)
  · refine J_bind fun x3 hx3 => ?_
    refine q_J.step (fun g => j_icmp_f rfl (cc_ne_f h2) (j_aload_n rfl rfl (j_gfl rfl hx3 (j_lload_n rfl rfl (j_lcmp rfl (g)))))) ?_
    refine J_ite (fun h4 => ?_) (fun h4 => ?_)
    · exact J_some (fun h => j_if_f rfl (lc_ne_f h4) (j_iconst (1 : Int32) rfl k32_1 (j_goto rfl (j_iret rfl (q_zr (Or.inr rfl)) h))))
    exact J_some (fun h => j_if_t rfl (lc_ne_t h4) (j_iconst (0 : Int32) rfl k32_0 (j_iret rfl (q_zr (Or.inl rfl)) h)))
  exact J_some (fun h => j_icmp_t rfl (cc_ne_t h2) (j_iconst (0 : Int32) rfl k32_0 (j_iret rfl (q_zr (Or.inl rfl)) h)))
theorem t_Mo_isWord {fo : Option Nat} {d : Nat} (hd : 1 ≤ d) {v0 : Nat} {v1 : Int64} {σ σ1 : q_H} {r : Int32} (h : f_Mo_isWord v0 v1 σ = some (r, σ1)) : q_Rel (q_rf fo) q_Ms d 187 [.ref v0, .long v1] σ (.inl (some (.int r))) σ1 := by
  obtain ⟨d, rfl⟩ : ∃ d1, d = d1 + 1 := ⟨d - 1, by omega⟩
  exact q_Rel.of rfl rfl (b_Mo_isWord hd _ _ σ _ _ h ⟨rfl, rfl⟩)

def f_Mo_errs (v0 : Nat) (v1 : Int32) (σ : q_H) : Option ((Int32) × q_H) := (q_gi (q_gf σ 12 v0 20)).bind fun x1 => (q_sf σ 12 v0 24 (.int (v1 + ((16 : Int32) * x1)))).bind fun σ2 => some ((0 : Int32), σ2)
set_option maxRecDepth 100000 in
theorem b_Mo_errs {fo : Option Nat} {d : Nat} (hd : 1 ≤ d + 1) {o : q_O} {σ' : q_H} (v0 : Nat) (v1 : Int32) (σ : q_H) : q_J (fun (r : Int32) (σ1 : q_H) => o = .inl (some (.int r)) ∧ σ' = σ1) (f_Mo_errs v0 v1 σ) (q_G (q_rf fo) d m_Mo_errs o σ' 0 [some (.ref v0), some (.int v1)] [] σ) := by
  unfold f_Mo_errs
  refine J_bind fun x1 hx1 => ?_
  refine J_bind fun σ2 hσ2 => ?_
  exact J_some (fun h => j_aload_n rfl rfl (j_iload_n rfl rfl (j_bipush (16 : Int32) rfl kb_16 (j_aload_n rfl rfl (j_gfi rfl hx1 (j_imul rfl (j_iadd rfl (j_putf rfl rfl rfl rfl hσ2 (j_iconst (0 : Int32) rfl k32_0 (j_iret rfl (q_zr (Or.inl rfl)) h))))))))))
theorem t_Mo_errs {fo : Option Nat} {d : Nat} (hd : 1 ≤ d) {v0 : Nat} {v1 : Int32} {σ σ1 : q_H} {r : Int32} (h : f_Mo_errs v0 v1 σ = some (r, σ1)) : q_Rel (q_rf fo) q_Ms d 188 [.ref v0, .int v1] σ (.inl (some (.int r))) σ1 := by
  obtain ⟨d, rfl⟩ : ∃ d1, d = d1 + 1 := ⟨d - 1, by omega⟩
  exact q_Rel.of rfl rfl (b_Mo_errs hd _ _ σ _ _ h ⟨rfl, rfl⟩)

def f_Mo_tag (v0 : Nat) (σ : q_H) : Option ((Int32) × q_H) := (q_gi (q_gf σ 12 v0 21)).bind fun x1 => if x1 = (1 : Int32) then ((q_gl' (q_gf σ 12 v0 22)).bind fun x3 => if x3 = (87024528 : Int64) then (some ((1 : Int32), σ)) else ((q_gl' (q_gf σ 12 v0 22)).bind fun x5 => if x5 = (194907051 : Int64) then (some ((2 : Int32), σ)) else ((q_gl' (q_gf σ 12 v0 22)).bind fun x7 => if x7 = (459437 : Int64) then (some ((3 : Int32), σ)) else ((q_gl' (q_gf σ 12 v0 22)).bind fun x9 => if x9 = (277800912 : Int64) then (some ((4 : Int32), σ)) else ((q_gl' (q_gf σ 12 v0 22)).bind fun x11 => if x11 = (38567165 : Int64) then (some ((5 : Int32), σ)) else ((q_gl' (q_gf σ 12 v0 22)).bind fun x13 => if x13 = (10656671 : Int64) then (some ((6 : Int32), σ)) else ((q_gl' (q_gf σ 12 v0 22)).bind fun x15 => if x15 = (10334903 : Int64) then (some ((7 : Int32), σ)) else ((q_gl' (q_gf σ 12 v0 22)).bind fun x17 => if x17 = (180242487 : Int64) then (some ((8 : Int32), σ)) else (some ((0 : Int32), σ)))))))))) else (some ((0 : Int32), σ))
set_option maxRecDepth 100000 in
theorem b_Mo_tag {fo : Option Nat} {d : Nat} (hd : 1 ≤ d + 1) {o : q_O} {σ' : q_H} (v0 : Nat) (σ : q_H) : q_J (fun (r : Int32) (σ1 : q_H) => o = .inl (some (.int r)) ∧ σ' = σ1) (f_Mo_tag v0 σ) (q_G (q_rf fo) d m_Mo_tag o σ' 0 [some (.ref v0)] [] σ) := by
  unfold f_Mo_tag
  refine J_bind fun x1 hx1 => ?_
  refine q_J.step (fun g => j_aload_n rfl rfl (j_gfi rfl hx1 (j_iconst (1 : Int32) rfl k32_1 (g)))) ?_
  refine J_ite (fun h2 => ?_) (fun h2 => ?_)
  · refine J_bind fun x3 hx3 => ?_
    refine q_J.step (fun g => j_icmp_t rfl (cc_eq_t h2) (j_aload_n rfl rfl (j_gfl rfl hx3 (j_ldc2 (87024528 : Int64) rfl kw_87024528 (j_lcmp rfl (g)))))) ?_
    refine J_ite (fun h4 => ?_) (fun h4 => ?_)
    · exact J_some (fun h => j_if_f rfl (lc_ne_f h4) (j_iconst (1 : Int32) rfl k32_1 (j_iret rfl rfl h)))
    refine J_bind fun x5 hx5 => ?_
    refine q_J.step (fun g => j_if_t rfl (lc_ne_t h4) (j_aload_n rfl rfl (j_gfl rfl hx5 (j_ldc2 (194907051 : Int64) rfl kw_194907051 (j_lcmp rfl (g)))))) ?_
    refine J_ite (fun h6 => ?_) (fun h6 => ?_)
    · exact J_some (fun h => j_if_f rfl (lc_ne_f h6) (j_iconst (2 : Int32) rfl k32_2 (j_iret rfl rfl h)))
    refine J_bind fun x7 hx7 => ?_
    refine q_J.step (fun g => j_if_t rfl (lc_ne_t h6) (j_aload_n rfl rfl (j_gfl rfl hx7 (j_ldc2 (459437 : Int64) rfl kw_459437 (j_lcmp rfl (g)))))) ?_
    refine J_ite (fun h8 => ?_) (fun h8 => ?_)
    · exact J_some (fun h => j_if_f rfl (lc_ne_f h8) (j_iconst (3 : Int32) rfl k32_3 (j_iret rfl rfl h)))
    refine J_bind fun x9 hx9 => ?_
    refine q_J.step (fun g => j_if_t rfl (lc_ne_t h8) (j_aload_n rfl rfl (j_gfl rfl hx9 (j_ldc2 (277800912 : Int64) rfl kw_277800912 (j_lcmp rfl (g)))))) ?_
    refine J_ite (fun h10 => ?_) (fun h10 => ?_)
    · exact J_some (fun h => j_if_f rfl (lc_ne_f h10) (j_iconst (4 : Int32) rfl k32_4 (j_iret rfl rfl h)))
    refine J_bind fun x11 hx11 => ?_
    refine q_J.step (fun g => j_if_t rfl (lc_ne_t h10) (j_aload_n rfl rfl (j_gfl rfl hx11 (j_ldc2 (38567165 : Int64) rfl kw_38567165 (j_lcmp rfl (g)))))) ?_
    refine J_ite (fun h12 => ?_) (fun h12 => ?_)
    · exact J_some (fun h => j_if_f rfl (lc_ne_f h12) (j_iconst (5 : Int32) rfl k32_5 (j_iret rfl rfl h)))
    refine J_bind fun x13 hx13 => ?_
    refine q_J.step (fun g => j_if_t rfl (lc_ne_t h12) (j_aload_n rfl rfl (j_gfl rfl hx13 (j_ldc2 (10656671 : Int64) rfl kw_10656671 (j_lcmp rfl (g)))))) ?_
    refine J_ite (fun h14 => ?_) (fun h14 => ?_)
    · exact J_some (fun h => j_if_f rfl (lc_ne_f h14) (j_bipush (6 : Int32) rfl kb_6 (j_iret rfl rfl h)))
    refine J_bind fun x15 hx15 => ?_
    refine q_J.step (fun g => j_if_t rfl (lc_ne_t h14) (j_aload_n rfl rfl (j_gfl rfl hx15 (j_ldc2 (10334903 : Int64) rfl kw_10334903 (j_lcmp rfl (g)))))) ?_
    refine J_ite (fun h16 => ?_) (fun h16 => ?_)
    · exact J_some (fun h => j_if_f rfl (lc_ne_f h16) (j_bipush (7 : Int32) rfl kb_7 (j_iret rfl rfl h)))
    refine J_bind fun x17 hx17 => ?_
    refine q_J.step (fun g => j_if_t rfl (lc_ne_t h16) (j_aload_n rfl rfl (j_gfl rfl hx17 (j_ldc2 (180242487 : Int64) rfl kw_180242487 (j_lcmp rfl (g)))))) ?_
    refine J_ite (fun h18 => ?_) (fun h18 => ?_)
    · exact J_some (fun h => j_if_f rfl (lc_ne_f h18) (j_bipush (8 : Int32) rfl kb_8 (j_iret rfl rfl h)))
    exact J_some (fun h => j_if_t rfl (lc_ne_t h18) (j_iconst (0 : Int32) rfl k32_0 (j_iret rfl rfl h)))
  exact J_some (fun h => j_icmp_f rfl (cc_eq_f h2) (j_iconst (0 : Int32) rfl k32_0 (j_iret rfl rfl h)))
theorem t_Mo_tag {fo : Option Nat} {d : Nat} (hd : 1 ≤ d) {v0 : Nat} {σ σ1 : q_H} {r : Int32} (h : f_Mo_tag v0 σ = some (r, σ1)) : q_Rel (q_rf fo) q_Ms d 191 [.ref v0] σ (.inl (some (.int r))) σ1 := by
  obtain ⟨d, rfl⟩ : ∃ d1, d = d1 + 1 := ⟨d - 1, by omega⟩
  exact q_Rel.of rfl rfl (b_Mo_tag hd _ σ _ _ h ⟨rfl, rfl⟩)

def f_Mo_lineOf_L4 (v0 : Nat) (v1 : Int64) : Nat → Int32 → q_H → Option ((Int32 ⊕ Unit) × q_H)
  | 0, _, _ => none
  | n + 1, v3, σ => (q_gr (q_gf σ 12 v0 7)).bind fun x1 => (q_gi (q_ga σ 20 x1 (24 : Int32))).bind fun x2 => if v3 < ((288 : Int32) + x2) then ((q_gr (q_gf σ 12 v0 13)).bind fun x4 => (q_gl' (q_ga σ 21 x4 v3)).bind fun x5 => if x5 = v1 then (some ((.inl (v3 - (288 : Int32))), σ)) else (f_Mo_lineOf_L4 v0 v1 n (v3 + (1 : Int32)) σ)) else (some ((.inr ()), σ))
set_option maxRecDepth 100000 in
theorem l_Mo_lineOf_L4 {fo : Option Nat} {d : Nat} (hd : 1 ≤ d + 1) {o : q_O} {σ' : q_H} {E : (Int32 ⊕ Unit) → q_H → Prop} (v0 : Nat) (v1 : Int64) (hR : ∀ r σ1, E (.inl r) σ1 → o = .inl (some (.int r)) ∧ σ' = σ1) (hX : ∀ (t : Unit) σ1, E (.inr t) σ1 → q_G (q_rf fo) d m_Mo_lineOf o σ' 42 [none, none, none, none] [] σ1)  : ∀ (n : Nat) (v3 : Int32) (σ : q_H), q_J E (f_Mo_lineOf_L4 v0 v1 n v3 σ) (q_G (q_rf fo) d m_Mo_lineOf o σ' 4 [some (.ref v0), some (.long v1), none, some (.int v3)] [] σ)
  | 0, v3, σ => J_none
  | n + 1, v3, σ => by
    unfold f_Mo_lineOf_L4
    refine J_bind fun x1 hx1 => ?_
    refine J_bind fun x2 hx2 => ?_
    refine q_J.step (fun g => j_iload_n rfl rfl (j_sipush (288 : Int32) rfl ks_288 (j_aload_n rfl rfl (j_gfr rfl hx1 (j_bipush (24 : Int32) rfl kb_24 (j_ial rfl hx2 (j_iadd rfl (g)))))))) ?_
    refine J_ite (fun h3 => ?_) (fun h3 => ?_)
    · refine J_bind fun x4 hx4 => ?_
      refine J_bind fun x5 hx5 => ?_
      refine q_J.step (fun g => j_icmp_f rfl (cc_ge_f h3) (j_aload_n rfl rfl (j_gfr rfl hx4 (j_iload_n rfl rfl (j_lal rfl hx5 (j_lload_n rfl rfl (j_lcmp rfl (g)))))))) ?_
      refine J_ite (fun h6 => ?_) (fun h6 => ?_)
      · exact J_some (fun h => j_if_f rfl (lc_ne_f h6) (j_iload_n rfl rfl (j_sipush (288 : Int32) rfl ks_288 (j_isub rfl (j_iret rfl rfl (hR _ _ h))))))
      exact q_J.step (fun g => j_if_t rfl (lc_ne_t h6) (j_iinc [some (.ref v0), some (.long v1), none, some (.int (v3 + (1 : Int32)))] (v3 + (1 : Int32)) rfl rfl (by rw [k32_1]) (Or.inr True.intro) rfl (j_goto rfl (g)))) (l_Mo_lineOf_L4 hd v0 v1 hR hX n (v3 + (1 : Int32)) σ)
    exact J_some (fun h => j_icmp_t rfl (cc_ge_t h3) (j_weak (l := [none, none, none, none]) (And.intro (Or.inl rfl) (And.intro (Or.inl rfl) (And.intro (Or.inr rfl) (And.intro (Or.inl rfl) True.intro)))) (hX _ _ h)))

def f_Mo_lineOf (v0 : Nat) (v1 : Int64) (σ : q_H) : Option ((Int32) × q_H) := q_sq (f_Mo_lineOf_L4 v0 v1 q_FU (288 : Int32) σ) fun (t0 : Int32 ⊕ Unit) σ8 => match t0 with | .inl r9 => some (r9, σ8) | .inr t7 => (some ((-1 : Int32), σ8))
set_option maxRecDepth 100000 in
theorem b_Mo_lineOf {fo : Option Nat} {d : Nat} (hd : 1 ≤ d + 1) {o : q_O} {σ' : q_H} (v0 : Nat) (v1 : Int64) (σ : q_H) : q_J (fun (r : Int32) (σ1 : q_H) => o = .inl (some (.int r)) ∧ σ' = σ1) (f_Mo_lineOf v0 v1 σ) (q_G (q_rf fo) d m_Mo_lineOf o σ' 0 [some (.ref v0), some (.long v1), none, none] [] σ) := by
  unfold f_Mo_lineOf
  refine J_sq (fun (t0 : Int32 ⊕ Unit) (σ8 : q_H) => match t0 with | .inl r => o = .inl (some (.int r)) ∧ σ' = σ8 | .inr t7 => q_G (q_rf fo) d m_Mo_lineOf o σ' 42 [none, none, none, none] [] σ8) (q_J.step (fun g => j_sipush (288 : Int32) rfl ks_288 (j_istore_n [some (.ref v0), some (.long v1), none, some (.int (288 : Int32))] rfl rfl (Or.inr True.intro) rfl (g))) (l_Mo_lineOf_L4 hd v0 v1 (fun _ _ h => h) (fun _ _ h => h) q_FU (288 : Int32) σ)) (fun t0 σ8 => ?_)
  cases t0 with
  | inl r9 => exact J_some (fun h => h)
  | inr t7 =>
    exact J_some (fun h => j_iconst (-1 : Int32) rfl k32_m1 (j_iret rfl rfl h))
theorem t_Mo_lineOf {fo : Option Nat} {d : Nat} (hd : 1 ≤ d) {v0 : Nat} {v1 : Int64} {σ σ1 : q_H} {r : Int32} (h : f_Mo_lineOf v0 v1 σ = some (r, σ1)) : q_Rel (q_rf fo) q_Ms d 192 [.ref v0, .long v1] σ (.inl (some (.int r))) σ1 := by
  obtain ⟨d, rfl⟩ : ∃ d1, d = d1 + 1 := ⟨d - 1, by omega⟩
  exact q_Rel.of rfl rfl (b_Mo_lineOf hd _ _ σ _ _ h ⟨rfl, rfl⟩)

def f_Mo_isSign (v0 : Nat) (v1 : Int32) (σ : q_H) : Option ((Int32) × q_H) := (q_gi (q_gf σ 12 v0 21)).bind fun x1 => if x1 = (3 : Int32) then ((q_gr (q_gf σ 12 v0 17)).bind fun x3 => (q_gi (q_gf σ 12 v0 20)).bind fun x4 => (q_gi (q_ga σ 20 x3 x4)).bind fun x5 => if x5 = v1 then (some ((1 : Int32), σ)) else (some ((0 : Int32), σ))) else (some ((0 : Int32), σ))
set_option maxRecDepth 100000 in
theorem b_Mo_isSign {fo : Option Nat} {d : Nat} (hd : 1 ≤ d + 1) {o : q_O} {σ' : q_H} (v0 : Nat) (v1 : Int32) (σ : q_H) : q_J (fun (r : Int32) (σ1 : q_H) => o = .inl (some (.int r)) ∧ σ' = σ1) (f_Mo_isSign v0 v1 σ) (q_G (q_rf fo) d m_Mo_isSign o σ' 0 [some (.ref v0), some (.int v1)] [] σ) := by
  unfold f_Mo_isSign
  refine J_bind fun x1 hx1 => ?_
  refine q_J.step (fun g => j_aload_n rfl rfl (j_gfi rfl hx1 (j_iconst (3 : Int32) rfl k32_3 (g)))) ?_
  refine J_ite (fun h2 => ?_) (fun h2 => ?_)
  · refine J_bind fun x3 hx3 => ?_
    refine J_bind fun x4 hx4 => ?_
    refine J_bind fun x5 hx5 => ?_
    refine q_J.step (fun g => j_icmp_f rfl (cc_ne_f h2) (j_aload_n rfl rfl (j_gfr rfl hx3 (j_aload_n rfl rfl (j_gfi rfl hx4 (j_ial rfl hx5 (j_iload_n rfl rfl (g)))))))) ?_
    refine J_ite (fun h6 => ?_) (fun h6 => ?_)
    · exact J_some (fun h => j_icmp_f rfl (cc_ne_f h6) (j_iconst (1 : Int32) rfl k32_1 (j_goto rfl (j_iret rfl (q_zr (Or.inr rfl)) h))))
    exact J_some (fun h => j_icmp_t rfl (cc_ne_t h6) (j_iconst (0 : Int32) rfl k32_0 (j_iret rfl (q_zr (Or.inl rfl)) h)))
  exact J_some (fun h => j_icmp_t rfl (cc_ne_t h2) (j_iconst (0 : Int32) rfl k32_0 (j_iret rfl (q_zr (Or.inl rfl)) h)))
theorem t_Mo_isSign {fo : Option Nat} {d : Nat} (hd : 1 ≤ d) {v0 : Nat} {v1 : Int32} {σ σ1 : q_H} {r : Int32} (h : f_Mo_isSign v0 v1 σ = some (r, σ1)) : q_Rel (q_rf fo) q_Ms d 193 [.ref v0, .int v1] σ (.inl (some (.int r))) σ1 := by
  obtain ⟨d, rfl⟩ : ∃ d1, d = d1 + 1 := ⟨d - 1, by omega⟩
  exact q_Rel.of rfl rfl (b_Mo_isSign hd _ _ σ _ _ h ⟨rfl, rfl⟩)

def f_Mo_isWed_L4 (v0 : Nat) (v1 : Int32) : Nat → Int32 → q_H → Option ((Int32 ⊕ Unit) × q_H)
  | 0, _, _ => none
  | n + 1, v2, σ => (q_gr (q_gf σ 12 v0 7)).bind fun x1 => (q_gi (q_ga σ 20 x1 (24 : Int32))).bind fun x2 => if v2 < ((288 : Int32) + x2) then ((q_gr (q_gf σ 12 v0 10)).bind fun x4 => (q_gi (q_ga σ 20 x4 v2)).bind fun x5 => if x5 = v1 then (some ((.inl (1 : Int32)), σ)) else (f_Mo_isWed_L4 v0 v1 n (v2 + (1 : Int32)) σ)) else (some ((.inr ()), σ))
set_option maxRecDepth 100000 in
theorem l_Mo_isWed_L4 {fo : Option Nat} {d : Nat} (hd : 1 ≤ d + 1) {o : q_O} {σ' : q_H} {E : (Int32 ⊕ Unit) → q_H → Prop} (v0 : Nat) (v1 : Int32) (hR : ∀ r σ1, E (.inl r) σ1 → o = .inl (some (.int r)) ∧ σ' = σ1) (hX : ∀ (t : Unit) σ1, E (.inr t) σ1 → q_G (q_rf fo) d m_Mo_isWed o σ' 37 [none, none, none] [] σ1)  : ∀ (n : Nat) (v2 : Int32) (σ : q_H), q_J E (f_Mo_isWed_L4 v0 v1 n v2 σ) (q_G (q_rf fo) d m_Mo_isWed o σ' 4 [some (.ref v0), some (.int v1), some (.int v2)] [] σ)
  | 0, v2, σ => J_none
  | n + 1, v2, σ => by
    unfold f_Mo_isWed_L4
    refine J_bind fun x1 hx1 => ?_
    refine J_bind fun x2 hx2 => ?_
    refine q_J.step (fun g => j_iload_n rfl rfl (j_sipush (288 : Int32) rfl ks_288 (j_aload_n rfl rfl (j_gfr rfl hx1 (j_bipush (24 : Int32) rfl kb_24 (j_ial rfl hx2 (j_iadd rfl (g)))))))) ?_
    refine J_ite (fun h3 => ?_) (fun h3 => ?_)
    · refine J_bind fun x4 hx4 => ?_
      refine J_bind fun x5 hx5 => ?_
      refine q_J.step (fun g => j_icmp_f rfl (cc_ge_f h3) (j_aload_n rfl rfl (j_gfr rfl hx4 (j_iload_n rfl rfl (j_ial rfl hx5 (j_iload_n rfl rfl (g))))))) ?_
      refine J_ite (fun h6 => ?_) (fun h6 => ?_)
      · exact J_some (fun h => j_icmp_f rfl (cc_ne_f h6) (j_iconst (1 : Int32) rfl k32_1 (j_iret rfl (q_zr (Or.inr rfl)) (hR _ _ h))))
      exact q_J.step (fun g => j_icmp_t rfl (cc_ne_t h6) (j_iinc [some (.ref v0), some (.int v1), some (.int (v2 + (1 : Int32)))] (v2 + (1 : Int32)) rfl rfl (by rw [k32_1]) (Or.inr rfl) rfl (j_goto rfl (g)))) (l_Mo_isWed_L4 hd v0 v1 hR hX n (v2 + (1 : Int32)) σ)
    exact J_some (fun h => j_icmp_t rfl (cc_ge_t h3) (j_weak (l := [none, none, none]) (And.intro (Or.inl rfl) (And.intro (Or.inl rfl) (And.intro (Or.inl rfl) True.intro))) (hX _ _ h)))

def f_Mo_isWed (v0 : Nat) (v1 : Int32) (σ : q_H) : Option ((Int32) × q_H) := q_sq (f_Mo_isWed_L4 v0 v1 q_FU (288 : Int32) σ) fun (t0 : Int32 ⊕ Unit) σ8 => match t0 with | .inl r9 => some (r9, σ8) | .inr t7 => (some ((0 : Int32), σ8))
set_option maxRecDepth 100000 in
theorem b_Mo_isWed {fo : Option Nat} {d : Nat} (hd : 1 ≤ d + 1) {o : q_O} {σ' : q_H} (v0 : Nat) (v1 : Int32) (σ : q_H) : q_J (fun (r : Int32) (σ1 : q_H) => o = .inl (some (.int r)) ∧ σ' = σ1) (f_Mo_isWed v0 v1 σ) (q_G (q_rf fo) d m_Mo_isWed o σ' 0 [some (.ref v0), some (.int v1), none] [] σ) := by
  unfold f_Mo_isWed
  refine J_sq (fun (t0 : Int32 ⊕ Unit) (σ8 : q_H) => match t0 with | .inl r => o = .inl (some (.int r)) ∧ σ' = σ8 | .inr t7 => q_G (q_rf fo) d m_Mo_isWed o σ' 37 [none, none, none] [] σ8) (q_J.step (fun g => j_sipush (288 : Int32) rfl ks_288 (j_istore_n [some (.ref v0), some (.int v1), some (.int (288 : Int32))] rfl rfl (Or.inr rfl) rfl (g))) (l_Mo_isWed_L4 hd v0 v1 (fun _ _ h => h) (fun _ _ h => h) q_FU (288 : Int32) σ)) (fun t0 σ8 => ?_)
  cases t0 with
  | inl r9 => exact J_some (fun h => h)
  | inr t7 =>
    exact J_some (fun h => j_iconst (0 : Int32) rfl k32_0 (j_iret rfl (q_zr (Or.inl rfl)) h))
theorem t_Mo_isWed {fo : Option Nat} {d : Nat} (hd : 1 ≤ d) {v0 : Nat} {v1 : Int32} {σ σ1 : q_H} {r : Int32} (h : f_Mo_isWed v0 v1 σ = some (r, σ1)) : q_Rel (q_rf fo) q_Ms d 195 [.ref v0, .int v1] σ (.inl (some (.int r))) σ1 := by
  obtain ⟨d, rfl⟩ : ∃ d1, d = d1 + 1 := ⟨d - 1, by omega⟩
  exact q_Rel.of rfl rfl (b_Mo_isWed hd _ _ σ _ _ h ⟨rfl, rfl⟩)

def f_Mo_copies (v0 : Nat) (v1 : Int32) (v2 : Int32) (σ : q_H) : Option ((Unit) × q_H) := (q_gr (q_gf σ 12 v0 8)).bind fun x1 => (q_gr (q_gf σ 12 v0 8)).bind fun x2 => (q_gi (q_ga σ 20 x2 v1)).bind fun x3 => (q_sa σ 20 x1 v2 (.int x3)).bind fun σ4 => (q_gr (q_gf σ4 12 v0 9)).bind fun x5 => (q_gr (q_gf σ4 12 v0 9)).bind fun x6 => (q_gi (q_ga σ4 20 x6 v1)).bind fun x7 => (q_sa σ4 20 x5 v2 (.int x7)).bind fun σ8 => (q_gr (q_gf σ8 12 v0 10)).bind fun x9 => (q_gr (q_gf σ8 12 v0 10)).bind fun x10 => (q_gi (q_ga σ8 20 x10 v1)).bind fun x11 => (q_sa σ8 20 x9 v2 (.int x11)).bind fun σ12 => (q_gr (q_gf σ12 12 v0 11)).bind fun x13 => (q_gr (q_gf σ12 12 v0 11)).bind fun x14 => (q_gi (q_ga σ12 20 x14 v1)).bind fun x15 => (q_sa σ12 20 x13 v2 (.int x15)).bind fun σ16 => (q_gr (q_gf σ16 12 v0 12)).bind fun x17 => (q_gr (q_gf σ16 12 v0 12)).bind fun x18 => (q_gi (q_ga σ16 20 x18 v1)).bind fun x19 => (q_sa σ16 20 x17 v2 (.int x19)).bind fun σ20 => (q_gr (q_gf σ20 12 v0 13)).bind fun x21 => (q_gr (q_gf σ20 12 v0 13)).bind fun x22 => (q_gl' (q_ga σ20 21 x22 v1)).bind fun x23 => (q_sa σ20 21 x21 v2 (.long x23)).bind fun σ24 => (q_gr (q_gf σ24 12 v0 14)).bind fun x25 => (q_gr (q_gf σ24 12 v0 14)).bind fun x26 => (q_gl' (q_ga σ24 21 x26 v1)).bind fun x27 => (q_sa σ24 21 x25 v2 (.long x27)).bind fun σ28 => (q_gr (q_gf σ28 12 v0 15)).bind fun x29 => (q_gr (q_gf σ28 12 v0 15)).bind fun x30 => (q_gl' (q_ga σ28 21 x30 v1)).bind fun x31 => (q_sa σ28 21 x29 v2 (.long x31)).bind fun σ32 => some ((), σ32)
set_option maxRecDepth 100000 in
theorem b_Mo_copies {fo : Option Nat} {d : Nat} (hd : 1 ≤ d + 1) {o : q_O} {σ' : q_H} (v0 : Nat) (v1 : Int32) (v2 : Int32) (σ : q_H) : q_J (fun (r : Unit) (σ1 : q_H) => o = .inl none ∧ σ' = σ1) (f_Mo_copies v0 v1 v2 σ) (q_G (q_rf fo) d m_Mo_copies o σ' 0 [some (.ref v0), some (.int v1), some (.int v2)] [] σ) := by
  unfold f_Mo_copies
  refine J_bind fun x1 hx1 => ?_
  refine J_bind fun x2 hx2 => ?_
  refine J_bind fun x3 hx3 => ?_
  refine J_bind fun σ4 hσ4 => ?_
  refine J_bind fun x5 hx5 => ?_
  refine J_bind fun x6 hx6 => ?_
  refine J_bind fun x7 hx7 => ?_
  refine J_bind fun σ8 hσ8 => ?_
  refine J_bind fun x9 hx9 => ?_
  refine J_bind fun x10 hx10 => ?_
  refine J_bind fun x11 hx11 => ?_
  refine J_bind fun σ12 hσ12 => ?_
  refine J_bind fun x13 hx13 => ?_
  refine J_bind fun x14 hx14 => ?_
  refine J_bind fun x15 hx15 => ?_
  refine J_bind fun σ16 hσ16 => ?_
  refine J_bind fun x17 hx17 => ?_
  refine J_bind fun x18 hx18 => ?_
  refine J_bind fun x19 hx19 => ?_
  refine J_bind fun σ20 hσ20 => ?_
  refine J_bind fun x21 hx21 => ?_
  refine J_bind fun x22 hx22 => ?_
  refine J_bind fun x23 hx23 => ?_
  refine J_bind fun σ24 hσ24 => ?_
  refine J_bind fun x25 hx25 => ?_
  refine J_bind fun x26 hx26 => ?_
  refine J_bind fun x27 hx27 => ?_
  refine J_bind fun σ28 hσ28 => ?_
  refine J_bind fun x29 hx29 => ?_
  refine J_bind fun x30 hx30 => ?_
  refine J_bind fun x31 hx31 => ?_
  refine J_bind fun σ32 hσ32 => ?_
  exact J_some (fun h => j_aload_n rfl rfl (j_gfr rfl hx1 (j_iload_n rfl rfl (j_aload_n rfl rfl (j_gfr rfl hx2 (j_iload_n rfl rfl (j_ial rfl hx3 (j_ias rfl hσ4 (j_aload_n rfl rfl (j_gfr rfl hx5 (j_iload_n rfl rfl (j_aload_n rfl rfl (j_gfr rfl hx6 (j_iload_n rfl rfl (j_ial rfl hx7 (j_ias rfl hσ8 (j_aload_n rfl rfl (j_gfr rfl hx9 (j_iload_n rfl rfl (j_aload_n rfl rfl (j_gfr rfl hx10 (j_iload_n rfl rfl (j_ial rfl hx11 (j_ias rfl hσ12 (j_aload_n rfl rfl (j_gfr rfl hx13 (j_iload_n rfl rfl (j_aload_n rfl rfl (j_gfr rfl hx14 (j_iload_n rfl rfl (j_ial rfl hx15 (j_ias rfl hσ16 (j_aload_n rfl rfl (j_gfr rfl hx17 (j_iload_n rfl rfl (j_aload_n rfl rfl (j_gfr rfl hx18 (j_iload_n rfl rfl (j_ial rfl hx19 (j_ias rfl hσ20 (j_aload_n rfl rfl (j_gfr rfl hx21 (j_iload_n rfl rfl (j_aload_n rfl rfl (j_gfr rfl hx22 (j_iload_n rfl rfl (j_lal rfl hx23 (j_las rfl hσ24 (j_aload_n rfl rfl (j_gfr rfl hx25 (j_iload_n rfl rfl (j_aload_n rfl rfl (j_gfr rfl hx26 (j_iload_n rfl rfl (j_lal rfl hx27 (j_las rfl hσ28 (j_aload_n rfl rfl (j_gfr rfl hx29 (j_iload_n rfl rfl (j_aload_n rfl rfl (j_gfr rfl hx30 (j_iload_n rfl rfl (j_lal rfl hx31 (j_las rfl hσ32 (j_vret rfl rfl h)))))))))))))))))))))))))))))))))))))))))))))))))))))))))))))))))
theorem t_Mo_copies {fo : Option Nat} {d : Nat} (hd : 1 ≤ d) {v0 : Nat} {v1 : Int32} {v2 : Int32} {σ σ1 : q_H} {r : Unit} (h : f_Mo_copies v0 v1 v2 σ = some (r, σ1)) : q_Rel (q_rf fo) q_Ms d 196 [.ref v0, .int v1, .int v2] σ (.inl none) σ1 := by
  obtain ⟨d, rfl⟩ : ∃ d1, d = d1 + 1 := ⟨d - 1, by omega⟩
  exact q_Rel.of rfl rfl (b_Mo_copies hd _ _ _ σ _ _ h ⟨rfl, rfl⟩)

def f_Mo_kinOf (v0 : Nat) (v1 : Int32) (v2 : Int32) (σ : q_H) : Option ((Int32) × q_H) := (q_gr (q_gf σ 12 v0 14)).bind fun x1 => (q_gl' (q_ga σ 21 x1 v1)).bind fun x2 => if (0 : Int64) < x2 then ((q_gr (q_gf σ 12 v0 14)).bind fun x4 => (q_gl' (q_ga σ 21 x4 v1)).bind fun x5 => (q_gr (q_gf σ 12 v0 14)).bind fun x6 => (q_gl' (q_ga σ 21 x6 v2)).bind fun x7 => q_sq (if x5 = x7 then (some ((1 : Int32), σ)) else (some ((0 : Int32), σ))) fun (t9 : Int32) σ10 => (q_gr (q_gf σ10 12 v0 15)).bind fun x11 => (q_gl' (q_ga σ10 21 x11 v1)).bind fun x12 => if (0 : Int64) < x12 then ((q_gr (q_gf σ10 12 v0 15)).bind fun x14 => (q_gl' (q_ga σ10 21 x14 v1)).bind fun x15 => (q_gr (q_gf σ10 12 v0 15)).bind fun x16 => (q_gl' (q_ga σ10 21 x16 v2)).bind fun x17 => q_sq (if x15 = x17 then (some ((1 : Int32), σ10)) else (some ((0 : Int32), σ10))) fun (t19 : Int32) σ20 => if t9 = (0 : Int32) then (if t9 = (0 : Int32) then (if t19 = (0 : Int32) then (some ((0 : Int32), σ20)) else (some ((1 : Int32), σ20))) else (some ((1 : Int32), σ20))) else (if t19 = (0 : Int32) then (if t9 = (0 : Int32) then (if t19 = (0 : Int32) then (some ((0 : Int32), σ20)) else (some ((1 : Int32), σ20))) else (some ((1 : Int32), σ20))) else (some ((2 : Int32), σ20)))) else (if t9 = (0 : Int32) then (if t9 = (0 : Int32) then (if (0 : Int32) = (0 : Int32) then (some ((0 : Int32), σ10)) else (some ((1 : Int32), σ10))) else (some ((1 : Int32), σ10))) else (if (0 : Int32) = (0 : Int32) then (if t9 = (0 : Int32) then (if (0 : Int32) = (0 : Int32) then (some ((0 : Int32), σ10)) else (some ((1 : Int32), σ10))) else (some ((1 : Int32), σ10))) else (some ((2 : Int32), σ10))))) else ((q_gr (q_gf σ 12 v0 15)).bind fun x33 => (q_gl' (q_ga σ 21 x33 v1)).bind fun x34 => if (0 : Int64) < x34 then ((q_gr (q_gf σ 12 v0 15)).bind fun x36 => (q_gl' (q_ga σ 21 x36 v1)).bind fun x37 => (q_gr (q_gf σ 12 v0 15)).bind fun x38 => (q_gl' (q_ga σ 21 x38 v2)).bind fun x39 => q_sq (if x37 = x39 then (some ((1 : Int32), σ)) else (some ((0 : Int32), σ))) fun (t41 : Int32) σ42 => if (0 : Int32) = (0 : Int32) then (if (0 : Int32) = (0 : Int32) then (if t41 = (0 : Int32) then (some ((0 : Int32), σ42)) else (some ((1 : Int32), σ42))) else (some ((1 : Int32), σ42))) else (if t41 = (0 : Int32) then (if (0 : Int32) = (0 : Int32) then (if t41 = (0 : Int32) then (some ((0 : Int32), σ42)) else (some ((1 : Int32), σ42))) else (some ((1 : Int32), σ42))) else (some ((2 : Int32), σ42)))) else (if (0 : Int32) = (0 : Int32) then (if (0 : Int32) = (0 : Int32) then (if (0 : Int32) = (0 : Int32) then (some ((0 : Int32), σ)) else (some ((1 : Int32), σ))) else (some ((1 : Int32), σ))) else (if (0 : Int32) = (0 : Int32) then (if (0 : Int32) = (0 : Int32) then (if (0 : Int32) = (0 : Int32) then (some ((0 : Int32), σ)) else (some ((1 : Int32), σ))) else (some ((1 : Int32), σ))) else (some ((2 : Int32), σ)))))
set_option maxRecDepth 100000 in
theorem b_Mo_kinOf {fo : Option Nat} {d : Nat} (hd : 1 ≤ d + 1) {o : q_O} {σ' : q_H} (v0 : Nat) (v1 : Int32) (v2 : Int32) (σ : q_H) : q_J (fun (r : Int32) (σ1 : q_H) => o = .inl (some (.int r)) ∧ σ' = σ1) (f_Mo_kinOf v0 v1 v2 σ) (q_G (q_rf fo) d m_Mo_kinOf o σ' 0 [some (.ref v0), some (.int v1), some (.int v2), none, none] [] σ) := by
  unfold f_Mo_kinOf
  refine J_bind fun x1 hx1 => ?_
  refine J_bind fun x2 hx2 => ?_
  refine q_J.step (fun g => j_aload_n rfl rfl (j_gfr rfl hx1 (j_iload_n rfl rfl (j_lal rfl hx2 (j_lconst (0 : Int64) rfl kl_0 (j_lcmp rfl (g))))))) ?_
  refine J_ite (fun h3 => ?_) (fun h3 => ?_)
  · refine J_bind fun x4 hx4 => ?_
    refine J_bind fun x5 hx5 => ?_
    refine J_bind fun x6 hx6 => ?_
    refine J_bind fun x7 hx7 => ?_
    refine q_J.step (fun g => j_if_f rfl (lc_le_f h3) (j_aload_n rfl rfl (j_gfr rfl hx4 (j_iload_n rfl rfl (j_lal rfl hx5 (j_aload_n rfl rfl (j_gfr rfl hx6 (j_iload_n rfl rfl (j_lal rfl hx7 (j_lcmp rfl (g))))))))))) ?_
    refine J_sq (fun (t9 : Int32) (σ10 : q_H) => q_G (q_rf fo) d m_Mo_kinOf o σ' 32 [some (.ref v0), some (.int v1), some (.int v2), none, none] [.int t9] σ10) ?_ (fun t9 σ10 => ?_)
    · refine J_ite (fun h8 => ?_) (fun h8 => ?_)
      · exact J_some (fun h => j_if_f rfl (lc_ne_f h8) (j_iconst (1 : Int32) rfl k32_1 (j_goto rfl (h))))
      exact J_some (fun h => j_if_t rfl (lc_ne_t h8) (j_iconst (0 : Int32) rfl k32_0 (h)))
    refine J_bind fun x11 hx11 => ?_
    refine J_bind fun x12 hx12 => ?_
    refine q_J.step (fun g => j_istore_n [some (.ref v0), some (.int v1), some (.int v2), some (.int t9), none] rfl rfl (Or.inr rfl) rfl (j_aload_n rfl rfl (j_gfr rfl hx11 (j_iload_n rfl rfl (j_lal rfl hx12 (j_lconst (0 : Int64) rfl kl_0 (j_lcmp rfl (g)))))))) ?_
    refine J_ite (fun h13 => ?_) (fun h13 => ?_)
    · refine J_bind fun x14 hx14 => ?_
      refine J_bind fun x15 hx15 => ?_
      refine J_bind fun x16 hx16 => ?_
      refine J_bind fun x17 hx17 => ?_
      refine q_J.step (fun g => j_if_f rfl (lc_le_f h13) (j_aload_n rfl rfl (j_gfr rfl hx14 (j_iload_n rfl rfl (j_lal rfl hx15 (j_aload_n rfl rfl (j_gfr rfl hx16 (j_iload_n rfl rfl (j_lal rfl hx17 (j_lcmp rfl (g))))))))))) ?_
      refine J_sq (fun (t19 : Int32) (σ20 : q_H) => q_G (q_rf fo) d m_Mo_kinOf o σ' 65 [none, none, none, some (.int t9), none] [.int t19] σ20) ?_ (fun t19 σ20 => ?_)
      · refine J_ite (fun h18 => ?_) (fun h18 => ?_)
        · exact J_some (fun h => j_if_f rfl (lc_ne_f h18) (j_iconst (1 : Int32) rfl k32_1 (j_goto rfl (j_weak (l := [none, none, none, some (.int t9), none]) (And.intro (Or.inl rfl) (And.intro (Or.inl rfl) (And.intro (Or.inl rfl) (And.intro (Or.inr rfl) (And.intro (Or.inr rfl) True.intro))))) (h)))))
        exact J_some (fun h => j_if_t rfl (lc_ne_t h18) (j_iconst (0 : Int32) rfl k32_0 (j_weak (l := [none, none, none, some (.int t9), none]) (And.intro (Or.inl rfl) (And.intro (Or.inl rfl) (And.intro (Or.inl rfl) (And.intro (Or.inr rfl) (And.intro (Or.inr rfl) True.intro))))) (h))))
      refine q_J.step (fun g => j_istore [none, none, none, some (.int t9), some (.int t19)] rfl rfl (Or.inr rfl) rfl (j_iload_n rfl rfl (g))) ?_
      refine J_ite (fun h21 => ?_) (fun h21 => ?_)
      · refine q_J.step (fun g => j_if_t rfl (cc_eq_t h21) (j_iload_n rfl rfl (g))) ?_
        refine J_ite (fun h22 => ?_) (fun h22 => ?_)
        · refine q_J.step (fun g => j_if_f rfl (cc_ne_f h22) (j_iload rfl rfl (g))) ?_
          refine J_ite (fun h23 => ?_) (fun h23 => ?_)
          · exact J_some (fun h => j_if_t rfl (cc_eq_t h23) (j_iconst (0 : Int32) rfl k32_0 (j_iret rfl rfl h)))
          exact J_some (fun h => j_if_f rfl (cc_eq_f h23) (j_iconst (1 : Int32) rfl k32_1 (j_goto rfl (j_iret rfl rfl h))))
        exact J_some (fun h => j_if_t rfl (cc_ne_t h22) (j_iconst (1 : Int32) rfl k32_1 (j_goto rfl (j_iret rfl rfl h))))
      refine q_J.step (fun g => j_if_f rfl (cc_eq_f h21) (j_iload rfl rfl (g))) ?_
      refine J_ite (fun h24 => ?_) (fun h24 => ?_)
      · refine q_J.step (fun g => j_if_t rfl (cc_eq_t h24) (j_iload_n rfl rfl (g))) ?_
        refine J_ite (fun h25 => ?_) (fun h25 => ?_)
        · refine q_J.step (fun g => j_if_f rfl (cc_ne_f h25) (j_iload rfl rfl (g))) ?_
          refine J_ite (fun h26 => ?_) (fun h26 => ?_)
          · exact J_some (fun h => j_if_t rfl (cc_eq_t h26) (j_iconst (0 : Int32) rfl k32_0 (j_iret rfl rfl h)))
          exact J_some (fun h => j_if_f rfl (cc_eq_f h26) (j_iconst (1 : Int32) rfl k32_1 (j_goto rfl (j_iret rfl rfl h))))
        exact J_some (fun h => j_if_t rfl (cc_ne_t h25) (j_iconst (1 : Int32) rfl k32_1 (j_goto rfl (j_iret rfl rfl h))))
      exact J_some (fun h => j_if_f rfl (cc_eq_f h24) (j_iconst (2 : Int32) rfl k32_2 (j_goto rfl (j_iret rfl rfl h))))
    refine q_J.step (fun g => j_if_t rfl (lc_le_t h13) (j_iconst (0 : Int32) rfl k32_0 (j_istore [some (.ref v0), some (.int v1), some (.int v2), some (.int t9), some (.int (0 : Int32))] rfl rfl (Or.inr rfl) rfl (j_iload_n rfl rfl (g))))) ?_
    refine J_ite (fun h27 => ?_) (fun h27 => ?_)
    · refine q_J.step (fun g => j_if_t rfl (cc_eq_t h27) (j_iload_n rfl rfl (g))) ?_
      refine J_ite (fun h28 => ?_) (fun h28 => ?_)
      · refine q_J.step (fun g => j_if_f rfl (cc_ne_f h28) (j_iload rfl rfl (g))) ?_
        refine J_ite (fun h29 => ?_) (fun h29 => ?_)
        · exact J_some (fun h => j_if_t rfl (cc_eq_t h29) (j_iconst (0 : Int32) rfl k32_0 (j_iret rfl rfl h)))
        exact J_some (fun h => j_if_f rfl (cc_eq_f h29) (j_iconst (1 : Int32) rfl k32_1 (j_goto rfl (j_iret rfl rfl h))))
      exact J_some (fun h => j_if_t rfl (cc_ne_t h28) (j_iconst (1 : Int32) rfl k32_1 (j_goto rfl (j_iret rfl rfl h))))
    refine q_J.step (fun g => j_if_f rfl (cc_eq_f h27) (j_iload rfl rfl (g))) ?_
    refine J_ite (fun h30 => ?_) (fun h30 => ?_)
    · refine q_J.step (fun g => j_if_t rfl (cc_eq_t h30) (j_iload_n rfl rfl (g))) ?_
      refine J_ite (fun h31 => ?_) (fun h31 => ?_)
      · refine q_J.step (fun g => j_if_f rfl (cc_ne_f h31) (j_iload rfl rfl (g))) ?_
        refine J_ite (fun h32 => ?_) (fun h32 => ?_)
        · exact J_some (fun h => j_if_t rfl (cc_eq_t h32) (j_iconst (0 : Int32) rfl k32_0 (j_iret rfl rfl h)))
        exact J_some (fun h => j_if_f rfl (cc_eq_f h32) (j_iconst (1 : Int32) rfl k32_1 (j_goto rfl (j_iret rfl rfl h))))
      exact J_some (fun h => j_if_t rfl (cc_ne_t h31) (j_iconst (1 : Int32) rfl k32_1 (j_goto rfl (j_iret rfl rfl h))))
    exact J_some (fun h => j_if_f rfl (cc_eq_f h30) (j_iconst (2 : Int32) rfl k32_2 (j_goto rfl (j_iret rfl rfl h))))
  refine J_bind fun x33 hx33 => ?_
  refine J_bind fun x34 hx34 => ?_
  refine q_J.step (fun g => j_if_t rfl (lc_le_t h3) (j_iconst (0 : Int32) rfl k32_0 (j_istore_n [some (.ref v0), some (.int v1), some (.int v2), some (.int (0 : Int32)), none] rfl rfl (Or.inr rfl) rfl (j_aload_n rfl rfl (j_gfr rfl hx33 (j_iload_n rfl rfl (j_lal rfl hx34 (j_lconst (0 : Int64) rfl kl_0 (j_lcmp rfl (g)))))))))) ?_
  refine J_ite (fun h35 => ?_) (fun h35 => ?_)
  · refine J_bind fun x36 hx36 => ?_
    refine J_bind fun x37 hx37 => ?_
    refine J_bind fun x38 hx38 => ?_
    refine J_bind fun x39 hx39 => ?_
    refine q_J.step (fun g => j_if_f rfl (lc_le_f h35) (j_aload_n rfl rfl (j_gfr rfl hx36 (j_iload_n rfl rfl (j_lal rfl hx37 (j_aload_n rfl rfl (j_gfr rfl hx38 (j_iload_n rfl rfl (j_lal rfl hx39 (j_lcmp rfl (g))))))))))) ?_
    refine J_sq (fun (t41 : Int32) (σ42 : q_H) => q_G (q_rf fo) d m_Mo_kinOf o σ' 65 [none, none, none, some (.int (0 : Int32)), none] [.int t41] σ42) ?_ (fun t41 σ42 => ?_)
    · refine J_ite (fun h40 => ?_) (fun h40 => ?_)
      · exact J_some (fun h => j_if_f rfl (lc_ne_f h40) (j_iconst (1 : Int32) rfl k32_1 (j_goto rfl (j_weak (l := [none, none, none, some (.int (0 : Int32)), none]) (And.intro (Or.inl rfl) (And.intro (Or.inl rfl) (And.intro (Or.inl rfl) (And.intro (Or.inr rfl) (And.intro (Or.inr rfl) True.intro))))) (h)))))
      exact J_some (fun h => j_if_t rfl (lc_ne_t h40) (j_iconst (0 : Int32) rfl k32_0 (j_weak (l := [none, none, none, some (.int (0 : Int32)), none]) (And.intro (Or.inl rfl) (And.intro (Or.inl rfl) (And.intro (Or.inl rfl) (And.intro (Or.inr rfl) (And.intro (Or.inr rfl) True.intro))))) (h))))
    refine q_J.step (fun g => j_istore [none, none, none, some (.int (0 : Int32)), some (.int t41)] rfl rfl (Or.inr rfl) rfl (j_iload_n rfl rfl (g))) ?_
    refine J_ite (fun h43 => ?_) (fun h43 => ?_)
    · refine q_J.step (fun g => j_if_t rfl (cc_eq_t h43) (j_iload_n rfl rfl (g))) ?_
      refine J_ite (fun h44 => ?_) (fun h44 => ?_)
      · refine q_J.step (fun g => j_if_f rfl (cc_ne_f h44) (j_iload rfl rfl (g))) ?_
        refine J_ite (fun h45 => ?_) (fun h45 => ?_)
        · exact J_some (fun h => j_if_t rfl (cc_eq_t h45) (j_iconst (0 : Int32) rfl k32_0 (j_iret rfl rfl h)))
        exact J_some (fun h => j_if_f rfl (cc_eq_f h45) (j_iconst (1 : Int32) rfl k32_1 (j_goto rfl (j_iret rfl rfl h))))
      exact J_some (fun h => j_if_t rfl (cc_ne_t h44) (j_iconst (1 : Int32) rfl k32_1 (j_goto rfl (j_iret rfl rfl h))))
    refine q_J.step (fun g => j_if_f rfl (cc_eq_f h43) (j_iload rfl rfl (g))) ?_
    refine J_ite (fun h46 => ?_) (fun h46 => ?_)
    · refine q_J.step (fun g => j_if_t rfl (cc_eq_t h46) (j_iload_n rfl rfl (g))) ?_
      refine J_ite (fun h47 => ?_) (fun h47 => ?_)
      · refine q_J.step (fun g => j_if_f rfl (cc_ne_f h47) (j_iload rfl rfl (g))) ?_
        refine J_ite (fun h48 => ?_) (fun h48 => ?_)
        · exact J_some (fun h => j_if_t rfl (cc_eq_t h48) (j_iconst (0 : Int32) rfl k32_0 (j_iret rfl rfl h)))
        exact J_some (fun h => j_if_f rfl (cc_eq_f h48) (j_iconst (1 : Int32) rfl k32_1 (j_goto rfl (j_iret rfl rfl h))))
      exact J_some (fun h => j_if_t rfl (cc_ne_t h47) (j_iconst (1 : Int32) rfl k32_1 (j_goto rfl (j_iret rfl rfl h))))
    exact J_some (fun h => j_if_f rfl (cc_eq_f h46) (j_iconst (2 : Int32) rfl k32_2 (j_goto rfl (j_iret rfl rfl h))))
  refine q_J.step (fun g => j_if_t rfl (lc_le_t h35) (j_iconst (0 : Int32) rfl k32_0 (j_istore [some (.ref v0), some (.int v1), some (.int v2), some (.int (0 : Int32)), some (.int (0 : Int32))] rfl rfl (Or.inr rfl) rfl (j_iload_n rfl rfl (g))))) ?_
  refine J_ite (fun h49 => ?_) (fun h49 => ?_)
  · refine q_J.step (fun g => j_if_t rfl (cc_eq_t h49) (j_iload_n rfl rfl (g))) ?_
    refine J_ite (fun h50 => ?_) (fun h50 => ?_)
    · refine q_J.step (fun g => j_if_f rfl (cc_ne_f h50) (j_iload rfl rfl (g))) ?_
      refine J_ite (fun h51 => ?_) (fun h51 => ?_)
      · exact J_some (fun h => j_if_t rfl (cc_eq_t h51) (j_iconst (0 : Int32) rfl k32_0 (j_iret rfl rfl h)))
      exact J_some (fun h => j_if_f rfl (cc_eq_f h51) (j_iconst (1 : Int32) rfl k32_1 (j_goto rfl (j_iret rfl rfl h))))
    exact J_some (fun h => j_if_t rfl (cc_ne_t h50) (j_iconst (1 : Int32) rfl k32_1 (j_goto rfl (j_iret rfl rfl h))))
  refine q_J.step (fun g => j_if_f rfl (cc_eq_f h49) (j_iload rfl rfl (g))) ?_
  refine J_ite (fun h52 => ?_) (fun h52 => ?_)
  · refine q_J.step (fun g => j_if_t rfl (cc_eq_t h52) (j_iload_n rfl rfl (g))) ?_
    refine J_ite (fun h53 => ?_) (fun h53 => ?_)
    · refine q_J.step (fun g => j_if_f rfl (cc_ne_f h53) (j_iload rfl rfl (g))) ?_
      refine J_ite (fun h54 => ?_) (fun h54 => ?_)
      · exact J_some (fun h => j_if_t rfl (cc_eq_t h54) (j_iconst (0 : Int32) rfl k32_0 (j_iret rfl rfl h)))
      exact J_some (fun h => j_if_f rfl (cc_eq_f h54) (j_iconst (1 : Int32) rfl k32_1 (j_goto rfl (j_iret rfl rfl h))))
    exact J_some (fun h => j_if_t rfl (cc_ne_t h53) (j_iconst (1 : Int32) rfl k32_1 (j_goto rfl (j_iret rfl rfl h))))
  exact J_some (fun h => j_if_f rfl (cc_eq_f h52) (j_iconst (2 : Int32) rfl k32_2 (j_goto rfl (j_iret rfl rfl h))))
theorem t_Mo_kinOf {fo : Option Nat} {d : Nat} (hd : 1 ≤ d) {v0 : Nat} {v1 : Int32} {v2 : Int32} {σ σ1 : q_H} {r : Int32} (h : f_Mo_kinOf v0 v1 v2 σ = some (r, σ1)) : q_Rel (q_rf fo) q_Ms d 198 [.ref v0, .int v1, .int v2] σ (.inl (some (.int r))) σ1 := by
  obtain ⟨d, rfl⟩ : ∃ d1, d = d1 + 1 := ⟨d - 1, by omega⟩
  exact q_Rel.of rfl rfl (b_Mo_kinOf hd _ _ _ σ _ _ h ⟨rfl, rfl⟩)

def f_Mo_husband (v0 : Nat) (v1 : Int32) (v2 : Int32) (σ : q_H) : Option ((Int32) × q_H) := (q_gr (q_gf σ 12 v0 10)).bind fun x1 => (q_gi (q_ga σ 20 x1 (((12 : Int32) * v1) + v2))).bind fun x2 => some ((((12 : Int32) * v1) + x2), σ)
set_option maxRecDepth 100000 in
theorem b_Mo_husband {fo : Option Nat} {d : Nat} (hd : 1 ≤ d + 1) {o : q_O} {σ' : q_H} (v0 : Nat) (v1 : Int32) (v2 : Int32) (σ : q_H) : q_J (fun (r : Int32) (σ1 : q_H) => o = .inl (some (.int r)) ∧ σ' = σ1) (f_Mo_husband v0 v1 v2 σ) (q_G (q_rf fo) d m_Mo_husband o σ' 0 [some (.ref v0), some (.int v1), some (.int v2)] [] σ) := by
  unfold f_Mo_husband
  refine J_bind fun x1 hx1 => ?_
  refine J_bind fun x2 hx2 => ?_
  exact J_some (fun h => j_bipush (12 : Int32) rfl kb_12 (j_iload_n rfl rfl (j_imul rfl (j_aload_n rfl rfl (j_gfr rfl hx1 (j_bipush (12 : Int32) rfl kb_12 (j_iload_n rfl rfl (j_imul rfl (j_iload_n rfl rfl (j_iadd rfl (j_ial rfl hx2 (j_iadd rfl (j_iret rfl rfl h)))))))))))))
theorem t_Mo_husband {fo : Option Nat} {d : Nat} (hd : 1 ≤ d) {v0 : Nat} {v1 : Int32} {v2 : Int32} {σ σ1 : q_H} {r : Int32} (h : f_Mo_husband v0 v1 v2 σ = some (r, σ1)) : q_Rel (q_rf fo) q_Ms d 202 [.ref v0, .int v1, .int v2] σ (.inl (some (.int r))) σ1 := by
  obtain ⟨d, rfl⟩ : ∃ d1, d = d1 + 1 := ⟨d - 1, by omega⟩
  exact q_Rel.of rfl rfl (b_Mo_husband hd _ _ _ σ _ _ h ⟨rfl, rfl⟩)

def f_Mo_sorts (v0 : Int32) (σ : q_H) : Option ((Int32) × q_H) := if v0 = (0 : Int32) then (some ((1 : Int32), σ)) else (if v0 = (1 : Int32) then (some ((5 : Int32), σ)) else (some ((13 : Int32), σ)))
set_option maxRecDepth 100000 in
theorem b_Mo_sorts {fo : Option Nat} {d : Nat} (hd : 1 ≤ d + 1) {o : q_O} {σ' : q_H} (v0 : Int32) (σ : q_H) : q_J (fun (r : Int32) (σ1 : q_H) => o = .inl (some (.int r)) ∧ σ' = σ1) (f_Mo_sorts v0 σ) (q_G (q_rf fo) d m_Mo_sorts o σ' 0 [some (.int v0)] [] σ) := by
  unfold f_Mo_sorts
  refine q_J.step (fun g => j_iload_n rfl rfl (g)) ?_
  refine J_ite (fun h1 => ?_) (fun h1 => ?_)
  · exact J_some (fun h => j_if_f rfl (cc_ne_f h1) (j_iconst (1 : Int32) rfl k32_1 (j_goto rfl (j_iret rfl rfl h))))
  refine q_J.step (fun g => j_if_t rfl (cc_ne_t h1) (j_iload_n rfl rfl (j_iconst (1 : Int32) rfl k32_1 (g)))) ?_
  refine J_ite (fun h2 => ?_) (fun h2 => ?_)
  · exact J_some (fun h => j_icmp_f rfl (cc_ne_f h2) (j_iconst (5 : Int32) rfl k32_5 (j_goto rfl (j_iret rfl rfl h))))
  exact J_some (fun h => j_icmp_t rfl (cc_ne_t h2) (j_bipush (13 : Int32) rfl kb_13 (j_iret rfl rfl h)))
theorem t_Mo_sorts {fo : Option Nat} {d : Nat} (hd : 1 ≤ d) {v0 : Int32} {σ σ1 : q_H} {r : Int32} (h : f_Mo_sorts v0 σ = some (r, σ1)) : q_Rel (q_rf fo) q_Ms d 210 [.int v0] σ (.inl (some (.int r))) σ1 := by
  obtain ⟨d, rfl⟩ : ∃ d1, d = d1 + 1 := ⟨d - 1, by omega⟩
  exact q_Rel.of rfl rfl (b_Mo_sorts hd _ σ _ _ h ⟨rfl, rfl⟩)

def f_Mo_lowest_L17 (v0 : Int64) (v2 : Int64) (v4 : Int32) : Nat → Int64 → Int64 → q_H → Option ((Int64) × q_H)
  | 0, _, _, _ => none
  | n + 1, v5, v7, σ => if v7 = (0 : Int64) then (some (v5, σ)) else (if v7 = 0 then none else f_Mo_lowest_L17 v0 v2 v4 n v7 (v5 - v5 / v7 * v7) σ)
set_option maxRecDepth 100000 in
theorem l_Mo_lowest_L17 {fo : Option Nat} {d : Nat} (hd : 1 ≤ d + 1) {o : q_O} {σ' : q_H} {E : (Int64) → q_H → Prop} (v0 : Int64) (v2 : Int64) (v4 : Int32) (hX : ∀ (t : Int64) σ1, E (t) σ1 → q_G (q_rf fo) d m_Mo_lowest o σ' 42 [some (.long v0), none, some (.long v2), none, some (.int v4), some (.long t), none, none, none, none, none] [] σ1)  : ∀ (n : Nat) (v5 : Int64) (v7 : Int64) (σ : q_H), q_J E (f_Mo_lowest_L17 v0 v2 v4 n v5 v7 σ) (q_G (q_rf fo) d m_Mo_lowest o σ' 17 [some (.long v0), none, some (.long v2), none, some (.int v4), some (.long v5), none, some (.long v7), none, none, none] [] σ)
  | 0, v5, v7, σ => J_none
  | n + 1, v5, v7, σ => by
    unfold f_Mo_lowest_L17
    refine q_J.step (fun g => j_lload rfl rfl (j_lconst (0 : Int64) rfl kl_0 (j_lcmp rfl (g)))) ?_
    refine J_ite (fun h4 => ?_) (fun h4 => ?_)
    · exact J_some (fun h => j_if_t rfl (lc_eq_t h4) (j_weak (l := [some (.long v0), none, some (.long v2), none, some (.int v4), some (.long v5), none, none, none, none, none]) (And.intro (Or.inr rfl) (And.intro (Or.inr rfl) (And.intro (Or.inr rfl) (And.intro (Or.inr rfl) (And.intro (Or.inr rfl) (And.intro (Or.inr rfl) (And.intro (Or.inr rfl) (And.intro (Or.inl rfl) (And.intro (Or.inr rfl) (And.intro (Or.inr rfl) (And.intro (Or.inr rfl) True.intro))))))))))) (hX _ _ h)))
    refine q_J.step (fun g => j_if_f rfl (lc_eq_f h4) (j_lload rfl rfl (j_lload rfl rfl (g)))) ?_
    refine J_ite (fun _ => J_none) (fun h5 => ?_)
    exact q_J.step (fun g => j_lrem rfl h5 (j_lstore [some (.long v0), none, some (.long v2), none, some (.int v4), some (.long v5), none, some (.long v7), none, some (.long (v5 - v5 / v7 * v7)), none] rfl rfl (Or.inr True.intro) rfl (j_lload rfl rfl (j_lstore [some (.long v0), none, some (.long v2), none, some (.int v4), some (.long v7), none, some (.long v7), none, some (.long (v5 - v5 / v7 * v7)), none] rfl rfl (Or.inr rfl) rfl (j_lload rfl rfl (j_lstore [some (.long v0), none, some (.long v2), none, some (.int v4), some (.long v7), none, some (.long (v5 - v5 / v7 * v7)), none, some (.long (v5 - v5 / v7 * v7)), none] rfl rfl (Or.inr True.intro) rfl (j_goto rfl (j_weak (l := [some (.long v0), none, some (.long v2), none, some (.int v4), some (.long v7), none, some (.long (v5 - v5 / v7 * v7)), none, none, none]) (And.intro (Or.inr rfl) (And.intro (Or.inr rfl) (And.intro (Or.inr rfl) (And.intro (Or.inr rfl) (And.intro (Or.inr rfl) (And.intro (Or.inr rfl) (And.intro (Or.inr rfl) (And.intro (Or.inr rfl) (And.intro (Or.inr rfl) (And.intro (Or.inl rfl) (And.intro (Or.inr rfl) True.intro))))))))))) (g))))))))) (l_Mo_lowest_L17 hd v0 v2 v4 hX n v7 (v5 - v5 / v7 * v7) σ)

def f_Mo_lowest (v0 : Int64) (v2 : Int64) (v4 : Int32) (σ : q_H) : Option ((Int64) × q_H) := q_sq (if v0 < (0 : Int64) then (some ((-v0), σ)) else (some (v0, σ))) fun (t2 : Int64) σ3 => q_sq (f_Mo_lowest_L17 v0 v2 v4 q_FU t2 v2 σ3) fun (t6 : Int64) σ7 => if v4 = (0 : Int32) then (if t6 = 0 then none else some ((v0 / t6), σ7)) else (if t6 = 0 then none else some ((v2 / t6), σ7))
set_option maxRecDepth 100000 in
theorem b_Mo_lowest {fo : Option Nat} {d : Nat} (hd : 1 ≤ d + 1) {o : q_O} {σ' : q_H} (v0 : Int64) (v2 : Int64) (v4 : Int32) (σ : q_H) : q_J (fun (r : Int64) (σ1 : q_H) => o = .inl (some (.long r)) ∧ σ' = σ1) (f_Mo_lowest v0 v2 v4 σ) (q_G (q_rf fo) d m_Mo_lowest o σ' 0 [some (.long v0), none, some (.long v2), none, some (.int v4), none, none, none, none, none, none] [] σ) := by
  unfold f_Mo_lowest
  refine q_J.step (fun g => j_lload_n rfl rfl (j_lconst (0 : Int64) rfl kl_0 (j_lcmp rfl (g)))) ?_
  refine J_sq (fun (t2 : Int64) (σ3 : q_H) => q_G (q_rf fo) d m_Mo_lowest o σ' 12 [some (.long v0), none, some (.long v2), none, some (.int v4), none, none, none, none, none, none] [.long t2] σ3) ?_ (fun t2 σ3 => ?_)
  · refine J_ite (fun h1 => ?_) (fun h1 => ?_)
    · exact J_some (fun h => j_if_f rfl (lc_ge_f h1) (j_lload_n rfl rfl (j_lneg rfl (j_goto rfl (h)))))
    exact J_some (fun h => j_if_t rfl (lc_ge_t h1) (j_lload_n rfl rfl (h)))
  refine J_sq (fun (t6 : Int64) (σ7 : q_H) => q_G (q_rf fo) d m_Mo_lowest o σ' 42 [some (.long v0), none, some (.long v2), none, some (.int v4), some (.long t6), none, none, none, none, none] [] σ7) (q_J.step (fun g => j_lstore [some (.long v0), none, some (.long v2), none, some (.int v4), some (.long t2), none, none, none, none, none] rfl rfl (Or.inr rfl) rfl (j_lload_n rfl rfl (j_lstore [some (.long v0), none, some (.long v2), none, some (.int v4), some (.long t2), none, some (.long v2), none, none, none] rfl rfl (Or.inr True.intro) rfl (g)))) (l_Mo_lowest_L17 hd v0 v2 v4 (fun _ _ h => h) q_FU t2 v2 σ3)) (fun t6 σ7 => ?_)
  refine q_J.step (fun g => j_iload rfl rfl (g)) ?_
  refine J_ite (fun h8 => ?_) (fun h8 => ?_)
  · refine q_J.step (fun g => j_if_f rfl (cc_ne_f h8) (j_lload_n rfl rfl (j_lload rfl rfl (g)))) ?_
    refine J_ite (fun _ => J_none) (fun h9 => ?_)
    exact J_some (fun h => j_ldiv rfl h9 (j_goto rfl (j_lret rfl rfl h)))
  refine q_J.step (fun g => j_if_t rfl (cc_ne_t h8) (j_lload_n rfl rfl (j_lload rfl rfl (g)))) ?_
  refine J_ite (fun _ => J_none) (fun h10 => ?_)
  exact J_some (fun h => j_ldiv rfl h10 (j_lret rfl rfl h))
theorem t_Mo_lowest {fo : Option Nat} {d : Nat} (hd : 1 ≤ d) {v0 : Int64} {v2 : Int64} {v4 : Int32} {σ σ1 : q_H} {r : Int64} (h : f_Mo_lowest v0 v2 v4 σ = some (r, σ1)) : q_Rel (q_rf fo) q_Ms d 211 [.long v0, .long v2, .int v4] σ (.inl (some (.long r))) σ1 := by
  obtain ⟨d, rfl⟩ : ∃ d1, d = d1 + 1 := ⟨d - 1, by omega⟩
  exact q_Rel.of rfl rfl (b_Mo_lowest hd _ _ _ σ _ _ h ⟨rfl, rfl⟩)

def f_Mo_hasParent_L5 (v0 : Nat) (v1 : Int32) (v2 : Int32) : Nat → Int32 → q_H → Option ((Int32 ⊕ Unit) × q_H)
  | 0, _, _ => none
  | n + 1, v3, σ => (q_gr (q_gf σ 12 v0 7)).bind fun x1 => (q_gi (q_ga σ 20 x1 v1)).bind fun x2 => if v3 < (((12 : Int32) * v1) + x2) then ((q_gr (q_gf σ 12 v0 8)).bind fun x4 => (q_gi (q_ga σ 20 x4 v3)).bind fun x5 => if x5 = (0 : Int32) then ((q_gr (q_gf σ 12 v0 14)).bind fun x7 => (q_gl' (q_ga σ 21 x7 v2)).bind fun x8 => if (0 : Int64) < x8 then ((q_gr (q_gf σ 12 v0 13)).bind fun x10 => (q_gl' (q_ga σ 21 x10 v3)).bind fun x11 => (q_gr (q_gf σ 12 v0 14)).bind fun x12 => (q_gl' (q_ga σ 21 x12 v2)).bind fun x13 => if x11 = x13 then (some ((.inl (1 : Int32)), σ)) else ((q_gr (q_gf σ 12 v0 8)).bind fun x15 => (q_gi (q_ga σ 20 x15 v3)).bind fun x16 => if x16 = (1 : Int32) then ((q_gr (q_gf σ 12 v0 15)).bind fun x18 => (q_gl' (q_ga σ 21 x18 v2)).bind fun x19 => if (0 : Int64) < x19 then ((q_gr (q_gf σ 12 v0 13)).bind fun x21 => (q_gl' (q_ga σ 21 x21 v3)).bind fun x22 => (q_gr (q_gf σ 12 v0 15)).bind fun x23 => (q_gl' (q_ga σ 21 x23 v2)).bind fun x24 => if x22 = x24 then (some ((.inl (1 : Int32)), σ)) else (f_Mo_hasParent_L5 v0 v1 v2 n (v3 + (1 : Int32)) σ)) else (f_Mo_hasParent_L5 v0 v1 v2 n (v3 + (1 : Int32)) σ)) else (f_Mo_hasParent_L5 v0 v1 v2 n (v3 + (1 : Int32)) σ))) else ((q_gr (q_gf σ 12 v0 8)).bind fun x26 => (q_gi (q_ga σ 20 x26 v3)).bind fun x27 => if x27 = (1 : Int32) then ((q_gr (q_gf σ 12 v0 15)).bind fun x29 => (q_gl' (q_ga σ 21 x29 v2)).bind fun x30 => if (0 : Int64) < x30 then ((q_gr (q_gf σ 12 v0 13)).bind fun x32 => (q_gl' (q_ga σ 21 x32 v3)).bind fun x33 => (q_gr (q_gf σ 12 v0 15)).bind fun x34 => (q_gl' (q_ga σ 21 x34 v2)).bind fun x35 => if x33 = x35 then (some ((.inl (1 : Int32)), σ)) else (f_Mo_hasParent_L5 v0 v1 v2 n (v3 + (1 : Int32)) σ)) else (f_Mo_hasParent_L5 v0 v1 v2 n (v3 + (1 : Int32)) σ)) else (f_Mo_hasParent_L5 v0 v1 v2 n (v3 + (1 : Int32)) σ))) else ((q_gr (q_gf σ 12 v0 8)).bind fun x37 => (q_gi (q_ga σ 20 x37 v3)).bind fun x38 => if x38 = (1 : Int32) then ((q_gr (q_gf σ 12 v0 15)).bind fun x40 => (q_gl' (q_ga σ 21 x40 v2)).bind fun x41 => if (0 : Int64) < x41 then ((q_gr (q_gf σ 12 v0 13)).bind fun x43 => (q_gl' (q_ga σ 21 x43 v3)).bind fun x44 => (q_gr (q_gf σ 12 v0 15)).bind fun x45 => (q_gl' (q_ga σ 21 x45 v2)).bind fun x46 => if x44 = x46 then (some ((.inl (1 : Int32)), σ)) else (f_Mo_hasParent_L5 v0 v1 v2 n (v3 + (1 : Int32)) σ)) else (f_Mo_hasParent_L5 v0 v1 v2 n (v3 + (1 : Int32)) σ)) else (f_Mo_hasParent_L5 v0 v1 v2 n (v3 + (1 : Int32)) σ))) else (some ((.inr ()), σ))
set_option maxRecDepth 100000 in
theorem l_Mo_hasParent_L5 {fo : Option Nat} {d : Nat} (hd : 1 ≤ d + 1) {o : q_O} {σ' : q_H} {E : (Int32 ⊕ Unit) → q_H → Prop} (v0 : Nat) (v1 : Int32) (v2 : Int32) (hR : ∀ r σ1, E (.inl r) σ1 → o = .inl (some (.int r)) ∧ σ' = σ1) (hX : ∀ (t : Unit) σ1, E (.inr t) σ1 → q_G (q_rf fo) d m_Mo_hasParent o σ' 101 [none, none, none, none] [] σ1)  : ∀ (n : Nat) (v3 : Int32) (σ : q_H), q_J E (f_Mo_hasParent_L5 v0 v1 v2 n v3 σ) (q_G (q_rf fo) d m_Mo_hasParent o σ' 5 [some (.ref v0), some (.int v1), some (.int v2), some (.int v3)] [] σ)
  | 0, v3, σ => J_none
  | n + 1, v3, σ => by
    unfold f_Mo_hasParent_L5
    refine J_bind fun x1 hx1 => ?_
    refine J_bind fun x2 hx2 => ?_
    refine q_J.step (fun g => j_iload_n rfl rfl (j_bipush (12 : Int32) rfl kb_12 (j_iload_n rfl rfl (j_imul rfl (j_aload_n rfl rfl (j_gfr rfl hx1 (j_iload_n rfl rfl (j_ial rfl hx2 (j_iadd rfl (g)))))))))) ?_
    refine J_ite (fun h3 => ?_) (fun h3 => ?_)
    · refine J_bind fun x4 hx4 => ?_
      refine J_bind fun x5 hx5 => ?_
      refine q_J.step (fun g => j_icmp_f rfl (cc_ge_f h3) (j_aload_n rfl rfl (j_gfr rfl hx4 (j_iload_n rfl rfl (j_ial rfl hx5 (g)))))) ?_
      refine J_ite (fun h6 => ?_) (fun h6 => ?_)
      · refine J_bind fun x7 hx7 => ?_
        refine J_bind fun x8 hx8 => ?_
        refine q_J.step (fun g => j_if_f rfl (cc_ne_f h6) (j_aload_n rfl rfl (j_gfr rfl hx7 (j_iload_n rfl rfl (j_lal rfl hx8 (j_lconst (0 : Int64) rfl kl_0 (j_lcmp rfl (g)))))))) ?_
        refine J_ite (fun h9 => ?_) (fun h9 => ?_)
        · refine J_bind fun x10 hx10 => ?_
          refine J_bind fun x11 hx11 => ?_
          refine J_bind fun x12 hx12 => ?_
          refine J_bind fun x13 hx13 => ?_
          refine q_J.step (fun g => j_if_f rfl (lc_le_f h9) (j_aload_n rfl rfl (j_gfr rfl hx10 (j_iload_n rfl rfl (j_lal rfl hx11 (j_aload_n rfl rfl (j_gfr rfl hx12 (j_iload_n rfl rfl (j_lal rfl hx13 (j_lcmp rfl (g))))))))))) ?_
          refine J_ite (fun h14 => ?_) (fun h14 => ?_)
          · exact J_some (fun h => j_if_t rfl (lc_eq_t h14) (j_iconst (1 : Int32) rfl k32_1 (j_iret rfl (q_zr (Or.inr rfl)) (hR _ _ h))))
          refine J_bind fun x15 hx15 => ?_
          refine J_bind fun x16 hx16 => ?_
          refine q_J.step (fun g => j_if_f rfl (lc_eq_f h14) (j_aload_n rfl rfl (j_gfr rfl hx15 (j_iload_n rfl rfl (j_ial rfl hx16 (j_iconst (1 : Int32) rfl k32_1 (g))))))) ?_
          refine J_ite (fun h17 => ?_) (fun h17 => ?_)
          · refine J_bind fun x18 hx18 => ?_
            refine J_bind fun x19 hx19 => ?_
            refine q_J.step (fun g => j_icmp_f rfl (cc_ne_f h17) (j_aload_n rfl rfl (j_gfr rfl hx18 (j_iload_n rfl rfl (j_lal rfl hx19 (j_lconst (0 : Int64) rfl kl_0 (j_lcmp rfl (g)))))))) ?_
            refine J_ite (fun h20 => ?_) (fun h20 => ?_)
            · refine J_bind fun x21 hx21 => ?_
              refine J_bind fun x22 hx22 => ?_
              refine J_bind fun x23 hx23 => ?_
              refine J_bind fun x24 hx24 => ?_
              refine q_J.step (fun g => j_if_f rfl (lc_le_f h20) (j_aload_n rfl rfl (j_gfr rfl hx21 (j_iload_n rfl rfl (j_lal rfl hx22 (j_aload_n rfl rfl (j_gfr rfl hx23 (j_iload_n rfl rfl (j_lal rfl hx24 (j_lcmp rfl (g))))))))))) ?_
              refine J_ite (fun h25 => ?_) (fun h25 => ?_)
              · exact J_some (fun h => j_if_f rfl (lc_ne_f h25) (j_iconst (1 : Int32) rfl k32_1 (j_iret rfl (q_zr (Or.inr rfl)) (hR _ _ h))))
              exact q_J.step (fun g => j_if_t rfl (lc_ne_t h25) (j_iinc [some (.ref v0), some (.int v1), some (.int v2), some (.int (v3 + (1 : Int32)))] (v3 + (1 : Int32)) rfl rfl (by rw [k32_1]) (Or.inr rfl) rfl (j_goto rfl (g)))) (l_Mo_hasParent_L5 hd v0 v1 v2 hR hX n (v3 + (1 : Int32)) σ)
            exact q_J.step (fun g => j_if_t rfl (lc_le_t h20) (j_iinc [some (.ref v0), some (.int v1), some (.int v2), some (.int (v3 + (1 : Int32)))] (v3 + (1 : Int32)) rfl rfl (by rw [k32_1]) (Or.inr rfl) rfl (j_goto rfl (g)))) (l_Mo_hasParent_L5 hd v0 v1 v2 hR hX n (v3 + (1 : Int32)) σ)
          exact q_J.step (fun g => j_icmp_t rfl (cc_ne_t h17) (j_iinc [some (.ref v0), some (.int v1), some (.int v2), some (.int (v3 + (1 : Int32)))] (v3 + (1 : Int32)) rfl rfl (by rw [k32_1]) (Or.inr rfl) rfl (j_goto rfl (g)))) (l_Mo_hasParent_L5 hd v0 v1 v2 hR hX n (v3 + (1 : Int32)) σ)
        refine J_bind fun x26 hx26 => ?_
        refine J_bind fun x27 hx27 => ?_
        refine q_J.step (fun g => j_if_t rfl (lc_le_t h9) (j_aload_n rfl rfl (j_gfr rfl hx26 (j_iload_n rfl rfl (j_ial rfl hx27 (j_iconst (1 : Int32) rfl k32_1 (g))))))) ?_
        refine J_ite (fun h28 => ?_) (fun h28 => ?_)
        · refine J_bind fun x29 hx29 => ?_
          refine J_bind fun x30 hx30 => ?_
          refine q_J.step (fun g => j_icmp_f rfl (cc_ne_f h28) (j_aload_n rfl rfl (j_gfr rfl hx29 (j_iload_n rfl rfl (j_lal rfl hx30 (j_lconst (0 : Int64) rfl kl_0 (j_lcmp rfl (g)))))))) ?_
          refine J_ite (fun h31 => ?_) (fun h31 => ?_)
          · refine J_bind fun x32 hx32 => ?_
            refine J_bind fun x33 hx33 => ?_
            refine J_bind fun x34 hx34 => ?_
            refine J_bind fun x35 hx35 => ?_
            refine q_J.step (fun g => j_if_f rfl (lc_le_f h31) (j_aload_n rfl rfl (j_gfr rfl hx32 (j_iload_n rfl rfl (j_lal rfl hx33 (j_aload_n rfl rfl (j_gfr rfl hx34 (j_iload_n rfl rfl (j_lal rfl hx35 (j_lcmp rfl (g))))))))))) ?_
            refine J_ite (fun h36 => ?_) (fun h36 => ?_)
            · exact J_some (fun h => j_if_f rfl (lc_ne_f h36) (j_iconst (1 : Int32) rfl k32_1 (j_iret rfl (q_zr (Or.inr rfl)) (hR _ _ h))))
            exact q_J.step (fun g => j_if_t rfl (lc_ne_t h36) (j_iinc [some (.ref v0), some (.int v1), some (.int v2), some (.int (v3 + (1 : Int32)))] (v3 + (1 : Int32)) rfl rfl (by rw [k32_1]) (Or.inr rfl) rfl (j_goto rfl (g)))) (l_Mo_hasParent_L5 hd v0 v1 v2 hR hX n (v3 + (1 : Int32)) σ)
          exact q_J.step (fun g => j_if_t rfl (lc_le_t h31) (j_iinc [some (.ref v0), some (.int v1), some (.int v2), some (.int (v3 + (1 : Int32)))] (v3 + (1 : Int32)) rfl rfl (by rw [k32_1]) (Or.inr rfl) rfl (j_goto rfl (g)))) (l_Mo_hasParent_L5 hd v0 v1 v2 hR hX n (v3 + (1 : Int32)) σ)
        exact q_J.step (fun g => j_icmp_t rfl (cc_ne_t h28) (j_iinc [some (.ref v0), some (.int v1), some (.int v2), some (.int (v3 + (1 : Int32)))] (v3 + (1 : Int32)) rfl rfl (by rw [k32_1]) (Or.inr rfl) rfl (j_goto rfl (g)))) (l_Mo_hasParent_L5 hd v0 v1 v2 hR hX n (v3 + (1 : Int32)) σ)
      refine J_bind fun x37 hx37 => ?_
      refine J_bind fun x38 hx38 => ?_
      refine q_J.step (fun g => j_if_t rfl (cc_ne_t h6) (j_aload_n rfl rfl (j_gfr rfl hx37 (j_iload_n rfl rfl (j_ial rfl hx38 (j_iconst (1 : Int32) rfl k32_1 (g))))))) ?_
      refine J_ite (fun h39 => ?_) (fun h39 => ?_)
      · refine J_bind fun x40 hx40 => ?_
        refine J_bind fun x41 hx41 => ?_
        refine q_J.step (fun g => j_icmp_f rfl (cc_ne_f h39) (j_aload_n rfl rfl (j_gfr rfl hx40 (j_iload_n rfl rfl (j_lal rfl hx41 (j_lconst (0 : Int64) rfl kl_0 (j_lcmp rfl (g)))))))) ?_
        refine J_ite (fun h42 => ?_) (fun h42 => ?_)
        · refine J_bind fun x43 hx43 => ?_
          refine J_bind fun x44 hx44 => ?_
          refine J_bind fun x45 hx45 => ?_
          refine J_bind fun x46 hx46 => ?_
          refine q_J.step (fun g => j_if_f rfl (lc_le_f h42) (j_aload_n rfl rfl (j_gfr rfl hx43 (j_iload_n rfl rfl (j_lal rfl hx44 (j_aload_n rfl rfl (j_gfr rfl hx45 (j_iload_n rfl rfl (j_lal rfl hx46 (j_lcmp rfl (g))))))))))) ?_
          refine J_ite (fun h47 => ?_) (fun h47 => ?_)
          · exact J_some (fun h => j_if_f rfl (lc_ne_f h47) (j_iconst (1 : Int32) rfl k32_1 (j_iret rfl (q_zr (Or.inr rfl)) (hR _ _ h))))
          exact q_J.step (fun g => j_if_t rfl (lc_ne_t h47) (j_iinc [some (.ref v0), some (.int v1), some (.int v2), some (.int (v3 + (1 : Int32)))] (v3 + (1 : Int32)) rfl rfl (by rw [k32_1]) (Or.inr rfl) rfl (j_goto rfl (g)))) (l_Mo_hasParent_L5 hd v0 v1 v2 hR hX n (v3 + (1 : Int32)) σ)
        exact q_J.step (fun g => j_if_t rfl (lc_le_t h42) (j_iinc [some (.ref v0), some (.int v1), some (.int v2), some (.int (v3 + (1 : Int32)))] (v3 + (1 : Int32)) rfl rfl (by rw [k32_1]) (Or.inr rfl) rfl (j_goto rfl (g)))) (l_Mo_hasParent_L5 hd v0 v1 v2 hR hX n (v3 + (1 : Int32)) σ)
      exact q_J.step (fun g => j_icmp_t rfl (cc_ne_t h39) (j_iinc [some (.ref v0), some (.int v1), some (.int v2), some (.int (v3 + (1 : Int32)))] (v3 + (1 : Int32)) rfl rfl (by rw [k32_1]) (Or.inr rfl) rfl (j_goto rfl (g)))) (l_Mo_hasParent_L5 hd v0 v1 v2 hR hX n (v3 + (1 : Int32)) σ)
    exact J_some (fun h => j_icmp_t rfl (cc_ge_t h3) (j_weak (l := [none, none, none, none]) (And.intro (Or.inl rfl) (And.intro (Or.inl rfl) (And.intro (Or.inl rfl) (And.intro (Or.inl rfl) True.intro)))) (hX _ _ h)))

def f_Mo_hasParent (v0 : Nat) (v1 : Int32) (v2 : Int32) (σ : q_H) : Option ((Int32) × q_H) := q_sq (f_Mo_hasParent_L5 v0 v1 v2 q_FU ((12 : Int32) * v1) σ) fun (t0 : Int32 ⊕ Unit) σ49 => match t0 with | .inl r50 => some (r50, σ49) | .inr t48 => (some ((0 : Int32), σ49))
set_option maxRecDepth 100000 in
theorem b_Mo_hasParent {fo : Option Nat} {d : Nat} (hd : 1 ≤ d + 1) {o : q_O} {σ' : q_H} (v0 : Nat) (v1 : Int32) (v2 : Int32) (σ : q_H) : q_J (fun (r : Int32) (σ1 : q_H) => o = .inl (some (.int r)) ∧ σ' = σ1) (f_Mo_hasParent v0 v1 v2 σ) (q_G (q_rf fo) d m_Mo_hasParent o σ' 0 [some (.ref v0), some (.int v1), some (.int v2), none] [] σ) := by
  unfold f_Mo_hasParent
  refine J_sq (fun (t0 : Int32 ⊕ Unit) (σ49 : q_H) => match t0 with | .inl r => o = .inl (some (.int r)) ∧ σ' = σ49 | .inr t48 => q_G (q_rf fo) d m_Mo_hasParent o σ' 101 [none, none, none, none] [] σ49) (q_J.step (fun g => j_bipush (12 : Int32) rfl kb_12 (j_iload_n rfl rfl (j_imul rfl (j_istore_n [some (.ref v0), some (.int v1), some (.int v2), some (.int ((12 : Int32) * v1))] rfl rfl (Or.inr rfl) rfl (g))))) (l_Mo_hasParent_L5 hd v0 v1 v2 (fun _ _ h => h) (fun _ _ h => h) q_FU ((12 : Int32) * v1) σ)) (fun t0 σ49 => ?_)
  cases t0 with
  | inl r50 => exact J_some (fun h => h)
  | inr t48 =>
    exact J_some (fun h => j_iconst (0 : Int32) rfl k32_0 (j_iret rfl (q_zr (Or.inl rfl)) h))
theorem t_Mo_hasParent {fo : Option Nat} {d : Nat} (hd : 1 ≤ d) {v0 : Nat} {v1 : Int32} {v2 : Int32} {σ σ1 : q_H} {r : Int32} (h : f_Mo_hasParent v0 v1 v2 σ = some (r, σ1)) : q_Rel (q_rf fo) q_Ms d 232 [.ref v0, .int v1, .int v2] σ (.inl (some (.int r))) σ1 := by
  obtain ⟨d, rfl⟩ : ∃ d1, d = d1 + 1 := ⟨d - 1, by omega⟩
  exact q_Rel.of rfl rfl (b_Mo_hasParent hd _ _ _ σ _ _ h ⟨rfl, rfl⟩)

def f_Mo_isTable (v0 : Int32) (σ : q_H) : Option ((Int32) × q_H) := if v0 < (0 : Int32) then (some ((0 : Int32), σ)) else (if v0 < (4 : Int32) then (some ((1 : Int32), σ)) else (some ((0 : Int32), σ)))
set_option maxRecDepth 100000 in
theorem b_Mo_isTable {fo : Option Nat} {d : Nat} (hd : 1 ≤ d + 1) {o : q_O} {σ' : q_H} (v0 : Int32) (σ : q_H) : q_J (fun (r : Int32) (σ1 : q_H) => o = .inl (some (.int r)) ∧ σ' = σ1) (f_Mo_isTable v0 σ) (q_G (q_rf fo) d m_Mo_isTable o σ' 0 [some (.int v0)] [] σ) := by
  unfold f_Mo_isTable
  refine q_J.step (fun g => j_iload_n rfl rfl (g)) ?_
  refine J_ite (fun h1 => ?_) (fun h1 => ?_)
  · exact J_some (fun h => j_if_t rfl (cc_lt_t h1) (j_iconst (0 : Int32) rfl k32_0 (j_iret rfl (q_zr (Or.inl rfl)) h)))
  refine q_J.step (fun g => j_if_f rfl (cc_lt_f h1) (j_iload_n rfl rfl (j_iconst (4 : Int32) rfl k32_4 (g)))) ?_
  refine J_ite (fun h2 => ?_) (fun h2 => ?_)
  · exact J_some (fun h => j_icmp_f rfl (cc_ge_f h2) (j_iconst (1 : Int32) rfl k32_1 (j_goto rfl (j_iret rfl (q_zr (Or.inr rfl)) h))))
  exact J_some (fun h => j_icmp_t rfl (cc_ge_t h2) (j_iconst (0 : Int32) rfl k32_0 (j_iret rfl (q_zr (Or.inl rfl)) h)))
theorem t_Mo_isTable {fo : Option Nat} {d : Nat} (hd : 1 ≤ d) {v0 : Int32} {σ σ1 : q_H} {r : Int32} (h : f_Mo_isTable v0 σ = some (r, σ1)) : q_Rel (q_rf fo) q_Ms d 234 [.int v0] σ (.inl (some (.int r))) σ1 := by
  obtain ⟨d, rfl⟩ : ∃ d1, d = d1 + 1 := ⟨d - 1, by omega⟩
  exact q_Rel.of rfl rfl (b_Mo_isTable hd _ σ _ _ h ⟨rfl, rfl⟩)

def f_Mo_atAge (v0 : Nat) (v1 : Int32) (v2 : Int32) (σ : q_H) : Option ((Int32) × q_H) := if v2 < (80 : Int32) then ((q_gr (q_gf σ 12 v0 30)).bind fun x2 => (q_gi (q_ga σ 20 x2 (((17 : Int32) * v1) + (v2 / (5 : Int32))))).bind fun x3 => (q_gr (q_gf σ 12 v0 30)).bind fun x4 => (q_gi (q_ga σ 20 x4 ((((17 : Int32) * v1) + (v2 / (5 : Int32))) + (1 : Int32)))).bind fun x5 => some (((x3 * ((5 : Int32) - (v2 - v2 / (5 : Int32) * (5 : Int32)))) + (x5 * (v2 - v2 / (5 : Int32) * (5 : Int32)))), σ)) else ((q_gr (q_gf σ 12 v0 30)).bind fun x6 => (q_gi (q_ga σ 20 x6 (((17 : Int32) * v1) + (16 : Int32)))).bind fun x7 => some (((5 : Int32) * x7), σ))
set_option maxRecDepth 100000 in
theorem b_Mo_atAge {fo : Option Nat} {d : Nat} (hd : 1 ≤ d + 1) {o : q_O} {σ' : q_H} (v0 : Nat) (v1 : Int32) (v2 : Int32) (σ : q_H) : q_J (fun (r : Int32) (σ1 : q_H) => o = .inl (some (.int r)) ∧ σ' = σ1) (f_Mo_atAge v0 v1 v2 σ) (q_G (q_rf fo) d m_Mo_atAge o σ' 0 [some (.ref v0), some (.int v1), some (.int v2), none] [] σ) := by
  unfold f_Mo_atAge
  refine q_J.step (fun g => j_iload_n rfl rfl (j_bipush (80 : Int32) rfl kb_80 (g))) ?_
  refine J_ite (fun h1 => ?_) (fun h1 => ?_)
  · refine J_bind fun x2 hx2 => ?_
    refine J_bind fun x3 hx3 => ?_
    refine J_bind fun x4 hx4 => ?_
    refine J_bind fun x5 hx5 => ?_
    exact J_some (fun h => j_icmp_t rfl (cc_lt_t h1) (j_bipush (17 : Int32) rfl kb_17 (j_iload_n rfl rfl (j_imul rfl (j_iload_n rfl rfl (j_iconst (5 : Int32) rfl k32_5 (j_idiv rfl (by decide) (j_iadd rfl (j_istore_n [some (.ref v0), some (.int v1), some (.int v2), some (.int (((17 : Int32) * v1) + (v2 / (5 : Int32))))] rfl rfl (Or.inr rfl) rfl (j_aload_n rfl rfl (j_gfr rfl hx2 (j_iload_n rfl rfl (j_ial rfl hx3 (j_iconst (5 : Int32) rfl k32_5 (j_iload_n rfl rfl (j_iconst (5 : Int32) rfl k32_5 (j_irem rfl (by decide) (j_isub rfl (j_imul rfl (j_aload_n rfl rfl (j_gfr rfl hx4 (j_iload_n rfl rfl (j_iconst (1 : Int32) rfl k32_1 (j_iadd rfl (j_ial rfl hx5 (j_iload_n rfl rfl (j_iconst (5 : Int32) rfl k32_5 (j_irem rfl (by decide) (j_imul rfl (j_iadd rfl (j_iret rfl rfl h)))))))))))))))))))))))))))))))
  refine J_bind fun x6 hx6 => ?_
  refine J_bind fun x7 hx7 => ?_
  exact J_some (fun h => j_icmp_f rfl (cc_lt_f h1) (j_iconst (5 : Int32) rfl k32_5 (j_aload_n rfl rfl (j_gfr rfl hx6 (j_bipush (17 : Int32) rfl kb_17 (j_iload_n rfl rfl (j_imul rfl (j_bipush (16 : Int32) rfl kb_16 (j_iadd rfl (j_ial rfl hx7 (j_imul rfl (j_iret rfl rfl h))))))))))))
theorem t_Mo_atAge {fo : Option Nat} {d : Nat} (hd : 1 ≤ d) {v0 : Nat} {v1 : Int32} {v2 : Int32} {σ σ1 : q_H} {r : Int32} (h : f_Mo_atAge v0 v1 v2 σ = some (r, σ1)) : q_Rel (q_rf fo) q_Ms d 236 [.ref v0, .int v1, .int v2] σ (.inl (some (.int r))) σ1 := by
  obtain ⟨d, rfl⟩ : ∃ d1, d = d1 + 1 := ⟨d - 1, by omega⟩
  exact q_Rel.of rfl rfl (b_Mo_atAge hd _ _ _ σ _ _ h ⟨rfl, rfl⟩)

def f_Mo_living (v0 : Nat) (v1 : Int32) (v2 : Int32) (σ : q_H) : Option ((Int32) × q_H) := (q_gr (q_gf σ 12 v0 30)).bind fun x1 => (q_gi (q_ga σ 20 x1 (((17 : Int32) * v1) + v2))).bind fun x2 => if v2 < (16 : Int32) then ((q_gr (q_gf σ 12 v0 30)).bind fun x4 => (q_gi (q_ga σ 20 x4 ((((17 : Int32) * v1) + v2) + (1 : Int32)))).bind fun x5 => some ((x2 + x5), σ)) else (some ((x2 + (0 : Int32)), σ))
set_option maxRecDepth 100000 in
theorem b_Mo_living {fo : Option Nat} {d : Nat} (hd : 1 ≤ d + 1) {o : q_O} {σ' : q_H} (v0 : Nat) (v1 : Int32) (v2 : Int32) (σ : q_H) : q_J (fun (r : Int32) (σ1 : q_H) => o = .inl (some (.int r)) ∧ σ' = σ1) (f_Mo_living v0 v1 v2 σ) (q_G (q_rf fo) d m_Mo_living o σ' 0 [some (.ref v0), some (.int v1), some (.int v2)] [] σ) := by
  unfold f_Mo_living
  refine J_bind fun x1 hx1 => ?_
  refine J_bind fun x2 hx2 => ?_
  refine q_J.step (fun g => j_aload_n rfl rfl (j_gfr rfl hx1 (j_bipush (17 : Int32) rfl kb_17 (j_iload_n rfl rfl (j_imul rfl (j_iload_n rfl rfl (j_iadd rfl (j_ial rfl hx2 (j_iload_n rfl rfl (j_bipush (16 : Int32) rfl kb_16 (g))))))))))) ?_
  refine J_ite (fun h3 => ?_) (fun h3 => ?_)
  · refine J_bind fun x4 hx4 => ?_
    refine J_bind fun x5 hx5 => ?_
    exact J_some (fun h => j_icmp_f rfl (cc_ge_f h3) (j_aload_n rfl rfl (j_gfr rfl hx4 (j_bipush (17 : Int32) rfl kb_17 (j_iload_n rfl rfl (j_imul rfl (j_iload_n rfl rfl (j_iadd rfl (j_iconst (1 : Int32) rfl k32_1 (j_iadd rfl (j_ial rfl hx5 (j_goto rfl (j_iadd rfl (j_iret rfl rfl h))))))))))))))
  exact J_some (fun h => j_icmp_t rfl (cc_ge_t h3) (j_iconst (0 : Int32) rfl k32_0 (j_iadd rfl (j_iret rfl rfl h))))
theorem t_Mo_living {fo : Option Nat} {d : Nat} (hd : 1 ≤ d) {v0 : Nat} {v1 : Int32} {v2 : Int32} {σ σ1 : q_H} {r : Int32} (h : f_Mo_living v0 v1 v2 σ = some (r, σ1)) : q_Rel (q_rf fo) q_Ms d 239 [.ref v0, .int v1, .int v2] σ (.inl (some (.int r))) σ1 := by
  obtain ⟨d, rfl⟩ : ∃ d1, d = d1 + 1 := ⟨d - 1, by omega⟩
  exact q_Rel.of rfl rfl (b_Mo_living hd _ _ _ σ _ _ h ⟨rfl, rfl⟩)

def f_Mo_fact (v0 : Nat) (σ : q_H) : Option ((Int32) × q_H) := (q_gi (q_gf σ 12 v0 21)).bind fun x1 => if x1 = (1 : Int32) then ((q_gl' (q_gf σ 12 v0 22)).bind fun x3 => if x3 = (5146 : Int64) then (some ((1 : Int32), σ)) else ((q_gl' (q_gf σ 12 v0 22)).bind fun x5 => if x5 = (6094 : Int64) then (some ((2 : Int32), σ)) else ((q_gl' (q_gf σ 12 v0 22)).bind fun x7 => if x7 = (161614 : Int64) then (some ((3 : Int32), σ)) else ((q_gl' (q_gf σ 12 v0 22)).bind fun x9 => if x9 = (133743 : Int64) then (some ((4 : Int32), σ)) else ((q_gl' (q_gf σ 12 v0 22)).bind fun x11 => if x11 = (158523 : Int64) then (some ((5 : Int32), σ)) else ((q_gl' (q_gf σ 12 v0 22)).bind fun x13 => if x13 = (43823245 : Int64) then (some ((6 : Int32), σ)) else ((q_gl' (q_gf σ 12 v0 22)).bind fun x15 => if x15 = (1421140441 : Int64) then (some ((7 : Int32), σ)) else ((q_gl' (q_gf σ 12 v0 22)).bind fun x17 => if x17 = (453117379 : Int64) then (some ((8 : Int32), σ)) else ((q_gl' (q_gf σ 12 v0 22)).bind fun x19 => if x19 = (385309 : Int64) then (some ((9 : Int32), σ)) else ((q_gl' (q_gf σ 12 v0 22)).bind fun x21 => if x21 = (7500624643 : Int64) then (some ((10 : Int32), σ)) else ((q_gl' (q_gf σ 12 v0 22)).bind fun x23 => if x23 = (8659005332 : Int64) then (some ((11 : Int32), σ)) else ((q_gl' (q_gf σ 12 v0 22)).bind fun x25 => if x25 = (380651 : Int64) then (some ((12 : Int32), σ)) else ((q_gl' (q_gf σ 12 v0 22)).bind fun x27 => if x27 = (1905275 : Int64) then (some ((13 : Int32), σ)) else (some ((0 : Int32), σ))))))))))))))) else (some ((0 : Int32), σ))
set_option maxRecDepth 100000 in
theorem b_Mo_fact {fo : Option Nat} {d : Nat} (hd : 1 ≤ d + 1) {o : q_O} {σ' : q_H} (v0 : Nat) (σ : q_H) : q_J (fun (r : Int32) (σ1 : q_H) => o = .inl (some (.int r)) ∧ σ' = σ1) (f_Mo_fact v0 σ) (q_G (q_rf fo) d m_Mo_fact o σ' 0 [some (.ref v0)] [] σ) := by
  unfold f_Mo_fact
  refine J_bind fun x1 hx1 => ?_
  refine q_J.step (fun g => j_aload_n rfl rfl (j_gfi rfl hx1 (j_iconst (1 : Int32) rfl k32_1 (g)))) ?_
  refine J_ite (fun h2 => ?_) (fun h2 => ?_)
  · refine J_bind fun x3 hx3 => ?_
    refine q_J.step (fun g => j_icmp_t rfl (cc_eq_t h2) (j_aload_n rfl rfl (j_gfl rfl hx3 (j_ldc2 (5146 : Int64) rfl kw_5146 (j_lcmp rfl (g)))))) ?_
    refine J_ite (fun h4 => ?_) (fun h4 => ?_)
    · exact J_some (fun h => j_if_f rfl (lc_ne_f h4) (j_iconst (1 : Int32) rfl k32_1 (j_iret rfl rfl h)))
    refine J_bind fun x5 hx5 => ?_
    refine q_J.step (fun g => j_if_t rfl (lc_ne_t h4) (j_aload_n rfl rfl (j_gfl rfl hx5 (j_ldc2 (6094 : Int64) rfl kw_6094 (j_lcmp rfl (g)))))) ?_
    refine J_ite (fun h6 => ?_) (fun h6 => ?_)
    · exact J_some (fun h => j_if_f rfl (lc_ne_f h6) (j_iconst (2 : Int32) rfl k32_2 (j_iret rfl rfl h)))
    refine J_bind fun x7 hx7 => ?_
    refine q_J.step (fun g => j_if_t rfl (lc_ne_t h6) (j_aload_n rfl rfl (j_gfl rfl hx7 (j_ldc2 (161614 : Int64) rfl kw_161614 (j_lcmp rfl (g)))))) ?_
    refine J_ite (fun h8 => ?_) (fun h8 => ?_)
    · exact J_some (fun h => j_if_f rfl (lc_ne_f h8) (j_iconst (3 : Int32) rfl k32_3 (j_iret rfl rfl h)))
    refine J_bind fun x9 hx9 => ?_
    refine q_J.step (fun g => j_if_t rfl (lc_ne_t h8) (j_aload_n rfl rfl (j_gfl rfl hx9 (j_ldc2 (133743 : Int64) rfl kw_133743 (j_lcmp rfl (g)))))) ?_
    refine J_ite (fun h10 => ?_) (fun h10 => ?_)
    · exact J_some (fun h => j_if_f rfl (lc_ne_f h10) (j_iconst (4 : Int32) rfl k32_4 (j_iret rfl rfl h)))
    refine J_bind fun x11 hx11 => ?_
    refine q_J.step (fun g => j_if_t rfl (lc_ne_t h10) (j_aload_n rfl rfl (j_gfl rfl hx11 (j_ldc2 (158523 : Int64) rfl kw_158523 (j_lcmp rfl (g)))))) ?_
    refine J_ite (fun h12 => ?_) (fun h12 => ?_)
    · exact J_some (fun h => j_if_f rfl (lc_ne_f h12) (j_iconst (5 : Int32) rfl k32_5 (j_iret rfl rfl h)))
    refine J_bind fun x13 hx13 => ?_
    refine q_J.step (fun g => j_if_t rfl (lc_ne_t h12) (j_aload_n rfl rfl (j_gfl rfl hx13 (j_ldc2 (43823245 : Int64) rfl kw_43823245 (j_lcmp rfl (g)))))) ?_
    refine J_ite (fun h14 => ?_) (fun h14 => ?_)
    · exact J_some (fun h => j_if_f rfl (lc_ne_f h14) (j_bipush (6 : Int32) rfl kb_6 (j_iret rfl rfl h)))
    refine J_bind fun x15 hx15 => ?_
    refine q_J.step (fun g => j_if_t rfl (lc_ne_t h14) (j_aload_n rfl rfl (j_gfl rfl hx15 (j_ldc2 (1421140441 : Int64) rfl kw_1421140441 (j_lcmp rfl (g)))))) ?_
    refine J_ite (fun h16 => ?_) (fun h16 => ?_)
    · exact J_some (fun h => j_if_f rfl (lc_ne_f h16) (j_bipush (7 : Int32) rfl kb_7 (j_iret rfl rfl h)))
    refine J_bind fun x17 hx17 => ?_
    refine q_J.step (fun g => j_if_t rfl (lc_ne_t h16) (j_aload_n rfl rfl (j_gfl rfl hx17 (j_ldc2 (453117379 : Int64) rfl kw_453117379 (j_lcmp rfl (g)))))) ?_
    refine J_ite (fun h18 => ?_) (fun h18 => ?_)
    · exact J_some (fun h => j_if_f rfl (lc_ne_f h18) (j_bipush (8 : Int32) rfl kb_8 (j_iret rfl rfl h)))
    refine J_bind fun x19 hx19 => ?_
    refine q_J.step (fun g => j_if_t rfl (lc_ne_t h18) (j_aload_n rfl rfl (j_gfl rfl hx19 (j_ldc2 (385309 : Int64) rfl kw_385309 (j_lcmp rfl (g)))))) ?_
    refine J_ite (fun h20 => ?_) (fun h20 => ?_)
    · exact J_some (fun h => j_if_f rfl (lc_ne_f h20) (j_bipush (9 : Int32) rfl kb_9 (j_iret rfl rfl h)))
    refine J_bind fun x21 hx21 => ?_
    refine q_J.step (fun g => j_if_t rfl (lc_ne_t h20) (j_aload_n rfl rfl (j_gfl rfl hx21 (j_ldc2 (7500624643 : Int64) rfl kw_7500624643 (j_lcmp rfl (g)))))) ?_
    refine J_ite (fun h22 => ?_) (fun h22 => ?_)
    · exact J_some (fun h => j_if_f rfl (lc_ne_f h22) (j_bipush (10 : Int32) rfl kb_10 (j_iret rfl rfl h)))
    refine J_bind fun x23 hx23 => ?_
    refine q_J.step (fun g => j_if_t rfl (lc_ne_t h22) (j_aload_n rfl rfl (j_gfl rfl hx23 (j_ldc2 (8659005332 : Int64) rfl kw_8659005332 (j_lcmp rfl (g)))))) ?_
    refine J_ite (fun h24 => ?_) (fun h24 => ?_)
    · exact J_some (fun h => j_if_f rfl (lc_ne_f h24) (j_bipush (11 : Int32) rfl kb_11 (j_iret rfl rfl h)))
    refine J_bind fun x25 hx25 => ?_
    refine q_J.step (fun g => j_if_t rfl (lc_ne_t h24) (j_aload_n rfl rfl (j_gfl rfl hx25 (j_ldc2 (380651 : Int64) rfl kw_380651 (j_lcmp rfl (g)))))) ?_
    refine J_ite (fun h26 => ?_) (fun h26 => ?_)
    · exact J_some (fun h => j_if_f rfl (lc_ne_f h26) (j_bipush (12 : Int32) rfl kb_12 (j_iret rfl rfl h)))
    refine J_bind fun x27 hx27 => ?_
    refine q_J.step (fun g => j_if_t rfl (lc_ne_t h26) (j_aload_n rfl rfl (j_gfl rfl hx27 (j_ldc2 (1905275 : Int64) rfl kw_1905275 (j_lcmp rfl (g)))))) ?_
    refine J_ite (fun h28 => ?_) (fun h28 => ?_)
    · exact J_some (fun h => j_if_f rfl (lc_ne_f h28) (j_bipush (13 : Int32) rfl kb_13 (j_iret rfl rfl h)))
    exact J_some (fun h => j_if_t rfl (lc_ne_t h28) (j_iconst (0 : Int32) rfl k32_0 (j_iret rfl rfl h)))
  exact J_some (fun h => j_icmp_f rfl (cc_eq_f h2) (j_iconst (0 : Int32) rfl k32_0 (j_iret rfl rfl h)))
theorem t_Mo_fact {fo : Option Nat} {d : Nat} (hd : 1 ≤ d) {v0 : Nat} {σ σ1 : q_H} {r : Int32} (h : f_Mo_fact v0 σ = some (r, σ1)) : q_Rel (q_rf fo) q_Ms d 251 [.ref v0] σ (.inl (some (.int r))) σ1 := by
  obtain ⟨d, rfl⟩ : ∃ d1, d = d1 + 1 := ⟨d - 1, by omega⟩
  exact q_Rel.of rfl rfl (b_Mo_fact hd _ σ _ _ h ⟨rfl, rfl⟩)

def f_Mo_puts (v0 : Nat) (v1 : Int32) (σ : q_H) : Option ((Unit) × q_H) := (q_gr (q_gf σ 12 v0 38)).bind fun x1 => (q_gi (q_gf σ 12 v0 39)).bind fun x2 => (q_sa σ 20 x1 x2 (.int v1)).bind fun σ3 => (q_gi (q_gf σ3 12 v0 39)).bind fun x4 => (q_sf σ3 12 v0 39 (.int (x4 + (1 : Int32)))).bind fun σ5 => some ((), σ5)
set_option maxRecDepth 100000 in
theorem b_Mo_puts {fo : Option Nat} {d : Nat} (hd : 1 ≤ d + 1) {o : q_O} {σ' : q_H} (v0 : Nat) (v1 : Int32) (σ : q_H) : q_J (fun (r : Unit) (σ1 : q_H) => o = .inl none ∧ σ' = σ1) (f_Mo_puts v0 v1 σ) (q_G (q_rf fo) d m_Mo_puts o σ' 0 [some (.ref v0), some (.int v1)] [] σ) := by
  unfold f_Mo_puts
  refine J_bind fun x1 hx1 => ?_
  refine J_bind fun x2 hx2 => ?_
  refine J_bind fun σ3 hσ3 => ?_
  refine J_bind fun x4 hx4 => ?_
  refine J_bind fun σ5 hσ5 => ?_
  exact J_some (fun h => j_aload_n rfl rfl (j_gfr rfl hx1 (j_aload_n rfl rfl (j_gfi rfl hx2 (j_iload_n rfl rfl (j_ias rfl hσ3 (j_aload_n rfl rfl (j_dup rfl rfl (j_gfi rfl hx4 (j_iconst (1 : Int32) rfl k32_1 (j_iadd rfl (j_putf rfl rfl rfl rfl hσ5 (j_vret rfl rfl h)))))))))))))
theorem t_Mo_puts {fo : Option Nat} {d : Nat} (hd : 1 ≤ d) {v0 : Nat} {v1 : Int32} {σ σ1 : q_H} {r : Unit} (h : f_Mo_puts v0 v1 σ = some (r, σ1)) : q_Rel (q_rf fo) q_Ms d 252 [.ref v0, .int v1] σ (.inl none) σ1 := by
  obtain ⟨d, rfl⟩ : ∃ d1, d = d1 + 1 := ⟨d - 1, by omega⟩
  exact q_Rel.of rfl rfl (b_Mo_puts hd _ _ σ _ _ h ⟨rfl, rfl⟩)

def f_Mo_opens (v0 : Nat) (v1 : Int32) (σ : q_H) : Option ((Unit) × q_H) := (q_gr (q_gf σ 12 v0 43)).bind fun x1 => (q_sa σ 20 x1 v1 (.int (0 : Int32))).bind fun σ2 => (q_gr (q_gf σ2 12 v0 45)).bind fun x3 => (q_sa σ2 20 x3 v1 (.int (0 : Int32))).bind fun σ4 => (q_gr (q_gf σ4 12 v0 46)).bind fun x5 => (q_sa σ4 20 x5 v1 (.int (0 : Int32))).bind fun σ6 => (q_gr (q_gf σ6 12 v0 47)).bind fun x7 => (q_sa σ6 20 x7 v1 (.int (20 : Int32))).bind fun σ8 => (q_gr (q_gf σ8 12 v0 49)).bind fun x9 => (q_sa σ8 20 x9 v1 (.int (0 : Int32))).bind fun σ10 => some ((), σ10)
set_option maxRecDepth 100000 in
theorem b_Mo_opens {fo : Option Nat} {d : Nat} (hd : 1 ≤ d + 1) {o : q_O} {σ' : q_H} (v0 : Nat) (v1 : Int32) (σ : q_H) : q_J (fun (r : Unit) (σ1 : q_H) => o = .inl none ∧ σ' = σ1) (f_Mo_opens v0 v1 σ) (q_G (q_rf fo) d m_Mo_opens o σ' 0 [some (.ref v0), some (.int v1)] [] σ) := by
  unfold f_Mo_opens
  refine J_bind fun x1 hx1 => ?_
  refine J_bind fun σ2 hσ2 => ?_
  refine J_bind fun x3 hx3 => ?_
  refine J_bind fun σ4 hσ4 => ?_
  refine J_bind fun x5 hx5 => ?_
  refine J_bind fun σ6 hσ6 => ?_
  refine J_bind fun x7 hx7 => ?_
  refine J_bind fun σ8 hσ8 => ?_
  refine J_bind fun x9 hx9 => ?_
  refine J_bind fun σ10 hσ10 => ?_
  exact J_some (fun h => j_aload_n rfl rfl (j_gfr rfl hx1 (j_iload_n rfl rfl (j_iconst (0 : Int32) rfl k32_0 (j_ias rfl hσ2 (j_aload_n rfl rfl (j_gfr rfl hx3 (j_iload_n rfl rfl (j_iconst (0 : Int32) rfl k32_0 (j_ias rfl hσ4 (j_aload_n rfl rfl (j_gfr rfl hx5 (j_iload_n rfl rfl (j_iconst (0 : Int32) rfl k32_0 (j_ias rfl hσ6 (j_aload_n rfl rfl (j_gfr rfl hx7 (j_iload_n rfl rfl (j_bipush (20 : Int32) rfl kb_20 (j_ias rfl hσ8 (j_aload_n rfl rfl (j_gfr rfl hx9 (j_iload_n rfl rfl (j_iconst (0 : Int32) rfl k32_0 (j_ias rfl hσ10 (j_vret rfl rfl h))))))))))))))))))))))))))
theorem t_Mo_opens {fo : Option Nat} {d : Nat} (hd : 1 ≤ d) {v0 : Nat} {v1 : Int32} {σ σ1 : q_H} {r : Unit} (h : f_Mo_opens v0 v1 σ = some (r, σ1)) : q_Rel (q_rf fo) q_Ms d 256 [.ref v0, .int v1] σ (.inl none) σ1 := by
  obtain ⟨d, rfl⟩ : ∃ d1, d = d1 + 1 := ⟨d - 1, by omega⟩
  exact q_Rel.of rfl rfl (b_Mo_opens hd _ _ σ _ _ h ⟨rfl, rfl⟩)

def f_Mo_sums (v0 : Nat) (v1 : Int32) (σ : q_H) : Option ((Unit) × q_H) := (q_gr (q_gf σ 12 v0 46)).bind fun x1 => (q_gr (q_gf σ 12 v0 47)).bind fun x2 => (q_gi (q_ga σ 20 x2 v1)).bind fun x3 => if x3 = (21 : Int32) then ((q_gr (q_gf σ 12 v0 46)).bind fun x5 => (q_gi (q_ga σ 20 x5 v1)).bind fun x6 => (q_gr (q_gf σ 12 v0 48)).bind fun x7 => (q_gi (q_ga σ 20 x7 v1)).bind fun x8 => (q_sa σ 20 x1 v1 (.int (x6 - x8))).bind fun σ9 => (q_gr (q_gf σ9 12 v0 49)).bind fun x10 => (q_sa σ9 20 x10 v1 (.int (0 : Int32))).bind fun σ11 => some ((), σ11)) else ((q_gr (q_gf σ 12 v0 46)).bind fun x12 => (q_gi (q_ga σ 20 x12 v1)).bind fun x13 => (q_gr (q_gf σ 12 v0 48)).bind fun x14 => (q_gi (q_ga σ 20 x14 v1)).bind fun x15 => (q_sa σ 20 x1 v1 (.int (x13 + x15))).bind fun σ16 => (q_gr (q_gf σ16 12 v0 49)).bind fun x17 => (q_sa σ16 20 x17 v1 (.int (0 : Int32))).bind fun σ18 => some ((), σ18))
set_option maxRecDepth 100000 in
theorem b_Mo_sums {fo : Option Nat} {d : Nat} (hd : 1 ≤ d + 1) {o : q_O} {σ' : q_H} (v0 : Nat) (v1 : Int32) (σ : q_H) : q_J (fun (r : Unit) (σ1 : q_H) => o = .inl none ∧ σ' = σ1) (f_Mo_sums v0 v1 σ) (q_G (q_rf fo) d m_Mo_sums o σ' 0 [some (.ref v0), some (.int v1)] [] σ) := by
  unfold f_Mo_sums
  refine J_bind fun x1 hx1 => ?_
  refine J_bind fun x2 hx2 => ?_
  refine J_bind fun x3 hx3 => ?_
  refine q_J.step (fun g => j_aload_n rfl rfl (j_gfr rfl hx1 (j_iload_n rfl rfl (j_aload_n rfl rfl (j_gfr rfl hx2 (j_iload_n rfl rfl (j_ial rfl hx3 (j_bipush (21 : Int32) rfl kb_21 (g))))))))) ?_
  refine J_ite (fun h4 => ?_) (fun h4 => ?_)
  · refine J_bind fun x5 hx5 => ?_
    refine J_bind fun x6 hx6 => ?_
    refine J_bind fun x7 hx7 => ?_
    refine J_bind fun x8 hx8 => ?_
    refine J_bind fun σ9 hσ9 => ?_
    refine J_bind fun x10 hx10 => ?_
    refine J_bind fun σ11 hσ11 => ?_
    exact J_some (fun h => j_icmp_f rfl (cc_ne_f h4) (j_aload_n rfl rfl (j_gfr rfl hx5 (j_iload_n rfl rfl (j_ial rfl hx6 (j_aload_n rfl rfl (j_gfr rfl hx7 (j_iload_n rfl rfl (j_ial rfl hx8 (j_isub rfl (j_goto rfl (j_ias rfl hσ9 (j_aload_n rfl rfl (j_gfr rfl hx10 (j_iload_n rfl rfl (j_iconst (0 : Int32) rfl k32_0 (j_ias rfl hσ11 (j_vret rfl rfl h))))))))))))))))))
  refine J_bind fun x12 hx12 => ?_
  refine J_bind fun x13 hx13 => ?_
  refine J_bind fun x14 hx14 => ?_
  refine J_bind fun x15 hx15 => ?_
  refine J_bind fun σ16 hσ16 => ?_
  refine J_bind fun x17 hx17 => ?_
  refine J_bind fun σ18 hσ18 => ?_
  exact J_some (fun h => j_icmp_t rfl (cc_ne_t h4) (j_aload_n rfl rfl (j_gfr rfl hx12 (j_iload_n rfl rfl (j_ial rfl hx13 (j_aload_n rfl rfl (j_gfr rfl hx14 (j_iload_n rfl rfl (j_ial rfl hx15 (j_iadd rfl (j_ias rfl hσ16 (j_aload_n rfl rfl (j_gfr rfl hx17 (j_iload_n rfl rfl (j_iconst (0 : Int32) rfl k32_0 (j_ias rfl hσ18 (j_vret rfl rfl h)))))))))))))))))
theorem t_Mo_sums {fo : Option Nat} {d : Nat} (hd : 1 ≤ d) {v0 : Nat} {v1 : Int32} {σ σ1 : q_H} {r : Unit} (h : f_Mo_sums v0 v1 σ = some (r, σ1)) : q_Rel (q_rf fo) q_Ms d 257 [.ref v0, .int v1] σ (.inl none) σ1 := by
  obtain ⟨d, rfl⟩ : ∃ d1, d = d1 + 1 := ⟨d - 1, by omega⟩
  exact q_Rel.of rfl rfl (b_Mo_sums hd _ _ σ _ _ h ⟨rfl, rfl⟩)

def f_Mo_draws (v0 : Nat) (v1 : Int32) (σ : q_H) : Option ((Int32) × q_H) := (q_gl' (q_gf σ 12 v0 52)).bind fun x1 => (q_sf σ 12 v0 52 (.long (((x1 * (1103515245 : Int64)) + (12345 : Int64)) - ((x1 * (1103515245 : Int64)) + (12345 : Int64)) / (2147483648 : Int64) * (2147483648 : Int64)))).bind fun σ2 => (q_gl' (q_gf σ2 12 v0 52)).bind fun x3 => if v1.toInt64 = 0 then none else some (((x3 / (65536 : Int64)) - (x3 / (65536 : Int64)) / v1.toInt64 * v1.toInt64).toInt32, σ2)
set_option maxRecDepth 100000 in
theorem b_Mo_draws {fo : Option Nat} {d : Nat} (hd : 1 ≤ d + 1) {o : q_O} {σ' : q_H} (v0 : Nat) (v1 : Int32) (σ : q_H) : q_J (fun (r : Int32) (σ1 : q_H) => o = .inl (some (.int r)) ∧ σ' = σ1) (f_Mo_draws v0 v1 σ) (q_G (q_rf fo) d m_Mo_draws o σ' 0 [some (.ref v0), some (.int v1)] [] σ) := by
  unfold f_Mo_draws
  refine J_bind fun x1 hx1 => ?_
  refine J_bind fun σ2 hσ2 => ?_
  refine J_bind fun x3 hx3 => ?_
  refine q_J.step (fun g => j_aload_n rfl rfl (j_aload_n rfl rfl (j_gfl rfl hx1 (j_ldc2 (1103515245 : Int64) rfl kw_1103515245 (j_lmul rfl (j_ldc2 (12345 : Int64) rfl kw_12345 (j_ladd rfl (j_ldc2 (2147483648 : Int64) rfl kw_2147483648 (j_lrem rfl (by decide) (j_putf rfl rfl rfl rfl hσ2 (j_aload_n rfl rfl (j_gfl rfl hx3 (j_ldc2 (65536 : Int64) rfl kw_65536 (j_ldiv rfl (by decide) (g))))))))))))))) ?_
  refine q_J.step (fun g => j_iload_n rfl rfl (j_i2l rfl (g))) ?_
  refine J_ite (fun _ => J_none) (fun h4 => ?_)
  exact J_some (fun h => j_lrem rfl h4 (j_l2i rfl (j_iret rfl rfl h)))
theorem t_Mo_draws {fo : Option Nat} {d : Nat} (hd : 1 ≤ d) {v0 : Nat} {v1 : Int32} {σ σ1 : q_H} {r : Int32} (h : f_Mo_draws v0 v1 σ = some (r, σ1)) : q_Rel (q_rf fo) q_Ms d 266 [.ref v0, .int v1] σ (.inl (some (.int r))) σ1 := by
  obtain ⟨d, rfl⟩ : ∃ d1, d = d1 + 1 := ⟨d - 1, by omega⟩
  exact q_Rel.of rfl rfl (b_Mo_draws hd _ _ σ _ _ h ⟨rfl, rfl⟩)

def f_Mo_isLess (v0 : Nat) (v1 : Int32) (v2 : Int32) (σ : q_H) : Option ((Int32) × q_H) := (q_gr (q_gf σ 12 v0 59)).bind fun x1 => (q_gi (q_ga σ 20 x1 v1)).bind fun x2 => (q_gr (q_gf σ 12 v0 60)).bind fun x3 => (q_gi (q_ga σ 20 x3 v2)).bind fun x4 => (q_gr (q_gf σ 12 v0 59)).bind fun x5 => (q_gi (q_ga σ 20 x5 v2)).bind fun x6 => (q_gr (q_gf σ 12 v0 60)).bind fun x7 => (q_gi (q_ga σ 20 x7 v1)).bind fun x8 => if (x2 * x4) < (x6 * x8) then (some ((1 : Int32), σ)) else (some ((0 : Int32), σ))
set_option maxRecDepth 100000 in
theorem b_Mo_isLess {fo : Option Nat} {d : Nat} (hd : 1 ≤ d + 1) {o : q_O} {σ' : q_H} (v0 : Nat) (v1 : Int32) (v2 : Int32) (σ : q_H) : q_J (fun (r : Int32) (σ1 : q_H) => o = .inl (some (.int r)) ∧ σ' = σ1) (f_Mo_isLess v0 v1 v2 σ) (q_G (q_rf fo) d m_Mo_isLess o σ' 0 [some (.ref v0), some (.int v1), some (.int v2)] [] σ) := by
  unfold f_Mo_isLess
  refine J_bind fun x1 hx1 => ?_
  refine J_bind fun x2 hx2 => ?_
  refine J_bind fun x3 hx3 => ?_
  refine J_bind fun x4 hx4 => ?_
  refine J_bind fun x5 hx5 => ?_
  refine J_bind fun x6 hx6 => ?_
  refine J_bind fun x7 hx7 => ?_
  refine J_bind fun x8 hx8 => ?_
  refine q_J.step (fun g => j_aload_n rfl rfl (j_gfr rfl hx1 (j_iload_n rfl rfl (j_ial rfl hx2 (j_aload_n rfl rfl (j_gfr rfl hx3 (j_iload_n rfl rfl (j_ial rfl hx4 (j_imul rfl (j_aload_n rfl rfl (j_gfr rfl hx5 (j_iload_n rfl rfl (j_ial rfl hx6 (j_aload_n rfl rfl (g))))))))))))))) ?_
  refine q_J.step (fun g => j_gfr rfl hx7 (j_iload_n rfl rfl (j_ial rfl hx8 (j_imul rfl (g))))) ?_
  refine J_ite (fun h9 => ?_) (fun h9 => ?_)
  · exact J_some (fun h => j_icmp_f rfl (cc_ge_f h9) (j_iconst (1 : Int32) rfl k32_1 (j_goto rfl (j_iret rfl (q_zr (Or.inr rfl)) h))))
  exact J_some (fun h => j_icmp_t rfl (cc_ge_t h9) (j_iconst (0 : Int32) rfl k32_0 (j_iret rfl (q_zr (Or.inl rfl)) h)))
theorem t_Mo_isLess {fo : Option Nat} {d : Nat} (hd : 1 ≤ d) {v0 : Nat} {v1 : Int32} {v2 : Int32} {σ σ1 : q_H} {r : Int32} (h : f_Mo_isLess v0 v1 v2 σ = some (r, σ1)) : q_Rel (q_rf fo) q_Ms d 271 [.ref v0, .int v1, .int v2] σ (.inl (some (.int r))) σ1 := by
  obtain ⟨d, rfl⟩ : ∃ d1, d = d1 + 1 := ⟨d - 1, by omega⟩
  exact q_Rel.of rfl rfl (b_Mo_isLess hd _ _ _ σ _ _ h ⟨rfl, rfl⟩)

def f_Mo_takesBack_L2 (v0 : Nat) (v1 : Int32) : Nat → Int32 → q_H → Option ((Unit) × q_H)
  | 0, _, _ => none
  | n + 1, v2, σ => if v2 < (6 : Int32) then ((q_gr (q_gf σ 12 v0 1)).bind fun x2 => (q_gr (q_gf σ 12 v0 62)).bind fun x3 => (q_gi (q_ga σ 20 x3 (((6 : Int32) * v1) + v2))).bind fun x4 => (q_sa σ 20 x2 v2 (.int x4)).bind fun σ5 => f_Mo_takesBack_L2 v0 v1 n (v2 + (1 : Int32)) σ5) else (some ((), σ))
set_option maxRecDepth 100000 in
theorem l_Mo_takesBack_L2 {fo : Option Nat} {d : Nat} (hd : 1 ≤ d + 1) {o : q_O} {σ' : q_H} {E : (Unit) → q_H → Prop} (v0 : Nat) (v1 : Int32) (hX : ∀ (t : Unit) σ1, E (t) σ1 → q_G (q_rf fo) d m_Mo_takesBack o σ' 31 [some (.ref v0), some (.int v1), none, none] [] σ1)  : ∀ (n : Nat) (v2 : Int32) (σ : q_H), q_J E (f_Mo_takesBack_L2 v0 v1 n v2 σ) (q_G (q_rf fo) d m_Mo_takesBack o σ' 2 [some (.ref v0), some (.int v1), some (.int v2), none] [] σ)
  | 0, v2, σ => J_none
  | n + 1, v2, σ => by
    unfold f_Mo_takesBack_L2
    refine q_J.step (fun g => j_iload_n rfl rfl (j_bipush (6 : Int32) rfl kb_6 (g))) ?_
    refine J_ite (fun h1 => ?_) (fun h1 => ?_)
    · refine J_bind fun x2 hx2 => ?_
      refine J_bind fun x3 hx3 => ?_
      refine J_bind fun x4 hx4 => ?_
      refine J_bind fun σ5 hσ5 => ?_
      exact q_J.step (fun g => j_icmp_f rfl (cc_ge_f h1) (j_aload_n rfl rfl (j_gfr rfl hx2 (j_iload_n rfl rfl (j_aload_n rfl rfl (j_gfr rfl hx3 (j_bipush (6 : Int32) rfl kb_6 (j_iload_n rfl rfl (j_imul rfl (j_iload_n rfl rfl (j_iadd rfl (j_ial rfl hx4 (j_ias rfl hσ5 (j_iinc [some (.ref v0), some (.int v1), some (.int (v2 + (1 : Int32))), none] (v2 + (1 : Int32)) rfl rfl (by rw [k32_1]) (Or.inr rfl) rfl (j_goto rfl (g)))))))))))))))) (l_Mo_takesBack_L2 hd v0 v1 hX n (v2 + (1 : Int32)) σ5)
    exact J_some (fun h => j_icmp_t rfl (cc_ge_t h1) (j_weak (l := [some (.ref v0), some (.int v1), none, none]) (And.intro (Or.inr rfl) (And.intro (Or.inr rfl) (And.intro (Or.inl rfl) (And.intro (Or.inr rfl) True.intro)))) (hX _ _ h)))

def f_Mo_takesBack_L33 (v0 : Nat) (v1 : Int32) : Nat → Int32 → q_H → Option ((Unit) × q_H)
  | 0, _, _ => none
  | n + 1, v2, σ => if v2 < (24 : Int32) then ((q_gr (q_gf σ 12 v0 2)).bind fun x9 => (q_gr (q_gf σ 12 v0 63)).bind fun x10 => (q_gi (q_ga σ 20 x10 (((144 : Int32) * v1) + ((6 : Int32) * v2)))).bind fun x11 => q_sq (if x11 = (1 : Int32) then (some ((1 : Int32), σ)) else (some ((0 : Int32), σ))) fun (t13 : Int32) σ14 => if ¬ (t13 = 0 ∨ t13 = 1) then none else (q_sa σ14 22 x9 v2 (.int t13)).bind fun σ15 => (q_gr (q_gf σ15 12 v0 3)).bind fun x17 => (q_gr (q_gf σ15 12 v0 63)).bind fun x18 => (q_gi (q_ga σ15 20 x18 ((((144 : Int32) * v1) + ((6 : Int32) * v2)) + (1 : Int32)))).bind fun x19 => q_sq (if x19 = (1 : Int32) then (some ((1 : Int32), σ15)) else (some ((0 : Int32), σ15))) fun (t21 : Int32) σ22 => if ¬ (t21 = 0 ∨ t21 = 1) then none else (q_sa σ22 22 x17 v2 (.int t21)).bind fun σ23 => (q_gr (q_gf σ23 12 v0 4)).bind fun x25 => (q_gr (q_gf σ23 12 v0 63)).bind fun x26 => (q_gi (q_ga σ23 20 x26 ((((144 : Int32) * v1) + ((6 : Int32) * v2)) + (2 : Int32)))).bind fun x27 => (q_sa σ23 20 x25 v2 (.int x27)).bind fun σ28 => (q_gr (q_gf σ28 12 v0 5)).bind fun x29 => (q_gr (q_gf σ28 12 v0 63)).bind fun x30 => (q_gi (q_ga σ28 20 x30 ((((144 : Int32) * v1) + ((6 : Int32) * v2)) + (3 : Int32)))).bind fun x31 => (q_sa σ28 20 x29 v2 (.int x31)).bind fun σ32 => (q_gr (q_gf σ32 12 v0 6)).bind fun x33 => (q_gr (q_gf σ32 12 v0 63)).bind fun x34 => (q_gi (q_ga σ32 20 x34 ((((144 : Int32) * v1) + ((6 : Int32) * v2)) + (4 : Int32)))).bind fun x35 => (q_sa σ32 20 x33 v2 (.int x35)).bind fun σ36 => (q_gr (q_gf σ36 12 v0 7)).bind fun x37 => (q_gr (q_gf σ36 12 v0 63)).bind fun x38 => (q_gi (q_ga σ36 20 x38 ((((144 : Int32) * v1) + ((6 : Int32) * v2)) + (5 : Int32)))).bind fun x39 => (q_sa σ36 20 x37 v2 (.int x39)).bind fun σ40 => f_Mo_takesBack_L33 v0 v1 n (v2 + (1 : Int32)) σ40) else (some ((), σ))
set_option maxRecDepth 100000 in
theorem l_Mo_takesBack_L33 {fo : Option Nat} {d : Nat} (hd : 1 ≤ d + 1) {o : q_O} {σ' : q_H} {E : (Unit) → q_H → Prop} (v0 : Nat) (v1 : Int32) (hX : ∀ (t : Unit) σ1, E (t) σ1 → q_G (q_rf fo) d m_Mo_takesBack o σ' 156 [some (.ref v0), some (.int v1), none, none] [] σ1)  : ∀ (n : Nat) (v2 : Int32) (σ : q_H), q_J E (f_Mo_takesBack_L33 v0 v1 n v2 σ) (q_G (q_rf fo) d m_Mo_takesBack o σ' 33 [some (.ref v0), some (.int v1), some (.int v2), none] [] σ)
  | 0, v2, σ => J_none
  | n + 1, v2, σ => by
    unfold f_Mo_takesBack_L33
    refine q_J.step (fun g => j_iload_n rfl rfl (j_bipush (24 : Int32) rfl kb_24 (g))) ?_
    refine J_ite (fun h8 => ?_) (fun h8 => ?_)
    · refine J_bind fun x9 hx9 => ?_
      refine J_bind fun x10 hx10 => ?_
      refine J_bind fun x11 hx11 => ?_
      refine q_J.step (fun g => j_icmp_f rfl (cc_ge_f h8) (j_sipush (144 : Int32) rfl ks_144 (j_iload_n rfl rfl (j_imul rfl (j_bipush (6 : Int32) rfl kb_6 (j_iload_n rfl rfl (j_imul rfl (j_iadd rfl (j_istore_n [some (.ref v0), some (.int v1), some (.int v2), some (.int (((144 : Int32) * v1) + ((6 : Int32) * v2)))] rfl rfl (Or.inr rfl) rfl (j_aload_n rfl rfl (j_gfr rfl hx9 (j_iload_n rfl rfl (j_aload_n rfl rfl (j_gfr rfl hx10 (g))))))))))))))) ?_
      refine q_J.step (fun g => j_iload_n rfl rfl (j_ial rfl hx11 (j_iconst (1 : Int32) rfl k32_1 (g)))) ?_
      refine J_sq (fun (t13 : Int32) (σ14 : q_H) => q_G (q_rf fo) d m_Mo_takesBack o σ' 70 [some (.ref v0), some (.int v1), some (.int v2), some (.int (((144 : Int32) * v1) + ((6 : Int32) * v2)))] [.int t13, .int v2, .ref x9] σ14) ?_ (fun t13 σ14 => ?_)
      · refine J_ite (fun h12 => ?_) (fun h12 => ?_)
        · exact J_some (fun h => j_icmp_f rfl (cc_ne_f h12) (j_iconst (1 : Int32) rfl k32_1 (j_goto rfl (h))))
        exact J_some (fun h => j_icmp_t rfl (cc_ne_t h12) (j_iconst (0 : Int32) rfl k32_0 (h)))
      refine J_ite (fun _ => J_none) (fun h16 => ?_)
      refine J_bind fun σ15 hσ15 => ?_
      refine J_bind fun x17 hx17 => ?_
      refine J_bind fun x18 hx18 => ?_
      refine J_bind fun x19 hx19 => ?_
      refine q_J.step (fun g => j_bas rfl (Decidable.not_not.mp h16) hσ15 (j_aload_n rfl rfl (j_gfr rfl hx17 (j_iload_n rfl rfl (j_aload_n rfl rfl (j_gfr rfl hx18 (j_iload_n rfl rfl (j_iconst (1 : Int32) rfl k32_1 (j_iadd rfl (j_ial rfl hx19 (j_iconst (1 : Int32) rfl k32_1 (g)))))))))))) ?_
      refine J_sq (fun (t21 : Int32) (σ22 : q_H) => q_G (q_rf fo) d m_Mo_takesBack o σ' 93 [some (.ref v0), some (.int v1), some (.int v2), some (.int (((144 : Int32) * v1) + ((6 : Int32) * v2)))] [.int t21, .int v2, .ref x17] σ22) ?_ (fun t21 σ22 => ?_)
      · refine J_ite (fun h20 => ?_) (fun h20 => ?_)
        · exact J_some (fun h => j_icmp_f rfl (cc_ne_f h20) (j_iconst (1 : Int32) rfl k32_1 (j_goto rfl (h))))
        exact J_some (fun h => j_icmp_t rfl (cc_ne_t h20) (j_iconst (0 : Int32) rfl k32_0 (h)))
      refine J_ite (fun _ => J_none) (fun h24 => ?_)
      refine J_bind fun σ23 hσ23 => ?_
      refine J_bind fun x25 hx25 => ?_
      refine J_bind fun x26 hx26 => ?_
      refine J_bind fun x27 hx27 => ?_
      refine J_bind fun σ28 hσ28 => ?_
      refine J_bind fun x29 hx29 => ?_
      refine J_bind fun x30 hx30 => ?_
      refine J_bind fun x31 hx31 => ?_
      refine J_bind fun σ32 hσ32 => ?_
      refine J_bind fun x33 hx33 => ?_
      refine J_bind fun x34 hx34 => ?_
      refine J_bind fun x35 hx35 => ?_
      refine J_bind fun σ36 hσ36 => ?_
      refine J_bind fun x37 hx37 => ?_
      refine J_bind fun x38 hx38 => ?_
      refine J_bind fun x39 hx39 => ?_
      refine J_bind fun σ40 hσ40 => ?_
      exact q_J.step (fun g => j_bas rfl (Decidable.not_not.mp h24) hσ23 (j_aload_n rfl rfl (j_gfr rfl hx25 (j_iload_n rfl rfl (j_aload_n rfl rfl (j_gfr rfl hx26 (j_iload_n rfl rfl (j_iconst (2 : Int32) rfl k32_2 (j_iadd rfl (j_ial rfl hx27 (j_ias rfl hσ28 (j_aload_n rfl rfl (j_gfr rfl hx29 (j_iload_n rfl rfl (j_aload_n rfl rfl (j_gfr rfl hx30 (j_iload_n rfl rfl (j_iconst (3 : Int32) rfl k32_3 (j_iadd rfl (j_ial rfl hx31 (j_ias rfl hσ32 (j_aload_n rfl rfl (j_gfr rfl hx33 (j_iload_n rfl rfl (j_aload_n rfl rfl (j_gfr rfl hx34 (j_iload_n rfl rfl (j_iconst (4 : Int32) rfl k32_4 (j_iadd rfl (j_ial rfl hx35 (j_ias rfl hσ36 (j_aload_n rfl rfl (j_gfr rfl hx37 (j_iload_n rfl rfl (j_aload_n rfl rfl (j_gfr rfl hx38 (j_iload_n rfl rfl (j_iconst (5 : Int32) rfl k32_5 (j_iadd rfl (j_ial rfl hx39 (j_ias rfl hσ40 (j_iinc [some (.ref v0), some (.int v1), some (.int (v2 + (1 : Int32))), some (.int (((144 : Int32) * v1) + ((6 : Int32) * v2)))] (v2 + (1 : Int32)) rfl rfl (by rw [k32_1]) (Or.inr rfl) rfl (j_goto rfl (j_weak (l := [some (.ref v0), some (.int v1), some (.int (v2 + (1 : Int32))), none]) (And.intro (Or.inr rfl) (And.intro (Or.inr rfl) (And.intro (Or.inr rfl) (And.intro (Or.inl rfl) True.intro)))) (g))))))))))))))))))))))))))))))))))))))))))))) (l_Mo_takesBack_L33 hd v0 v1 hX n (v2 + (1 : Int32)) σ40)
    exact J_some (fun h => j_icmp_t rfl (cc_ge_t h8) (j_weak (l := [some (.ref v0), some (.int v1), none, none]) (And.intro (Or.inr rfl) (And.intro (Or.inr rfl) (And.intro (Or.inl rfl) (And.intro (Or.inr rfl) True.intro)))) (hX _ _ h)))

def f_Mo_takesBack_L158 (v0 : Nat) (v1 : Int32) : Nat → Int32 → q_H → Option ((Unit) × q_H)
  | 0, _, _ => none
  | n + 1, v2, σ => if v2 < (288 : Int32) then ((q_gr (q_gf σ 12 v0 8)).bind fun x44 => (q_gr (q_gf σ 12 v0 64)).bind fun x45 => (q_gi (q_ga σ 20 x45 (((1440 : Int32) * v1) + ((5 : Int32) * v2)))).bind fun x46 => (q_sa σ 20 x44 v2 (.int x46)).bind fun σ47 => (q_gr (q_gf σ47 12 v0 9)).bind fun x48 => (q_gr (q_gf σ47 12 v0 64)).bind fun x49 => (q_gi (q_ga σ47 20 x49 ((((1440 : Int32) * v1) + ((5 : Int32) * v2)) + (1 : Int32)))).bind fun x50 => (q_sa σ47 20 x48 v2 (.int x50)).bind fun σ51 => (q_gr (q_gf σ51 12 v0 10)).bind fun x52 => (q_gr (q_gf σ51 12 v0 64)).bind fun x53 => (q_gi (q_ga σ51 20 x53 ((((1440 : Int32) * v1) + ((5 : Int32) * v2)) + (2 : Int32)))).bind fun x54 => (q_sa σ51 20 x52 v2 (.int x54)).bind fun σ55 => (q_gr (q_gf σ55 12 v0 11)).bind fun x56 => (q_gr (q_gf σ55 12 v0 64)).bind fun x57 => (q_gi (q_ga σ55 20 x57 ((((1440 : Int32) * v1) + ((5 : Int32) * v2)) + (3 : Int32)))).bind fun x58 => (q_sa σ55 20 x56 v2 (.int x58)).bind fun σ59 => (q_gr (q_gf σ59 12 v0 12)).bind fun x60 => (q_gr (q_gf σ59 12 v0 64)).bind fun x61 => (q_gi (q_ga σ59 20 x61 ((((1440 : Int32) * v1) + ((5 : Int32) * v2)) + (4 : Int32)))).bind fun x62 => (q_sa σ59 20 x60 v2 (.int x62)).bind fun σ63 => (q_gr (q_gf σ63 12 v0 13)).bind fun x64 => (q_gr (q_gf σ63 12 v0 65)).bind fun x65 => (q_gl' (q_ga σ63 21 x65 (((864 : Int32) * v1) + ((3 : Int32) * v2)))).bind fun x66 => (q_sa σ63 21 x64 v2 (.long x66)).bind fun σ67 => (q_gr (q_gf σ67 12 v0 14)).bind fun x68 => (q_gr (q_gf σ67 12 v0 65)).bind fun x69 => (q_gl' (q_ga σ67 21 x69 ((((864 : Int32) * v1) + ((3 : Int32) * v2)) + (1 : Int32)))).bind fun x70 => (q_sa σ67 21 x68 v2 (.long x70)).bind fun σ71 => (q_gr (q_gf σ71 12 v0 15)).bind fun x72 => (q_gr (q_gf σ71 12 v0 65)).bind fun x73 => (q_gl' (q_ga σ71 21 x73 ((((864 : Int32) * v1) + ((3 : Int32) * v2)) + (2 : Int32)))).bind fun x74 => (q_sa σ71 21 x72 v2 (.long x74)).bind fun σ75 => f_Mo_takesBack_L158 v0 v1 n (v2 + (1 : Int32)) σ75) else (some ((), σ))
set_option maxRecDepth 100000 in
theorem l_Mo_takesBack_L158 {fo : Option Nat} {d : Nat} (hd : 1 ≤ d + 1) {o : q_O} {σ' : q_H} {E : (Unit) → q_H → Prop} (v0 : Nat) (v1 : Int32) (hX : ∀ (t : Unit) σ1, E (t) σ1 → q_G (q_rf fo) d m_Mo_takesBack o σ' 313 [none, none, none, none] [] σ1)  : ∀ (n : Nat) (v2 : Int32) (σ : q_H), q_J E (f_Mo_takesBack_L158 v0 v1 n v2 σ) (q_G (q_rf fo) d m_Mo_takesBack o σ' 158 [some (.ref v0), some (.int v1), some (.int v2), none] [] σ)
  | 0, v2, σ => J_none
  | n + 1, v2, σ => by
    unfold f_Mo_takesBack_L158
    refine q_J.step (fun g => j_iload_n rfl rfl (j_sipush (288 : Int32) rfl ks_288 (g))) ?_
    refine J_ite (fun h43 => ?_) (fun h43 => ?_)
    · refine J_bind fun x44 hx44 => ?_
      refine J_bind fun x45 hx45 => ?_
      refine J_bind fun x46 hx46 => ?_
      refine J_bind fun σ47 hσ47 => ?_
      refine J_bind fun x48 hx48 => ?_
      refine J_bind fun x49 hx49 => ?_
      refine J_bind fun x50 hx50 => ?_
      refine J_bind fun σ51 hσ51 => ?_
      refine J_bind fun x52 hx52 => ?_
      refine J_bind fun x53 hx53 => ?_
      refine J_bind fun x54 hx54 => ?_
      refine J_bind fun σ55 hσ55 => ?_
      refine J_bind fun x56 hx56 => ?_
      refine J_bind fun x57 hx57 => ?_
      refine J_bind fun x58 hx58 => ?_
      refine J_bind fun σ59 hσ59 => ?_
      refine J_bind fun x60 hx60 => ?_
      refine J_bind fun x61 hx61 => ?_
      refine J_bind fun x62 hx62 => ?_
      refine J_bind fun σ63 hσ63 => ?_
      refine J_bind fun x64 hx64 => ?_
      refine J_bind fun x65 hx65 => ?_
      refine J_bind fun x66 hx66 => ?_
      refine J_bind fun σ67 hσ67 => ?_
      refine J_bind fun x68 hx68 => ?_
      refine J_bind fun x69 hx69 => ?_
      refine J_bind fun x70 hx70 => ?_
      refine J_bind fun σ71 hσ71 => ?_
      refine J_bind fun x72 hx72 => ?_
      refine J_bind fun x73 hx73 => ?_
      refine J_bind fun x74 hx74 => ?_
      refine J_bind fun σ75 hσ75 => ?_
      exact q_J.step (fun g => j_icmp_f rfl (cc_ge_f h43) (j_sipush (1440 : Int32) rfl ks_1440 (j_iload_n rfl rfl (j_imul rfl (j_iconst (5 : Int32) rfl k32_5 (j_iload_n rfl rfl (j_imul rfl (j_iadd rfl (j_istore_n [some (.ref v0), some (.int v1), some (.int v2), some (.int (((1440 : Int32) * v1) + ((5 : Int32) * v2)))] rfl rfl (Or.inr rfl) rfl (j_aload_n rfl rfl (j_gfr rfl hx44 (j_iload_n rfl rfl (j_aload_n rfl rfl (j_gfr rfl hx45 (j_iload_n rfl rfl (j_ial rfl hx46 (j_ias rfl hσ47 (j_aload_n rfl rfl (j_gfr rfl hx48 (j_iload_n rfl rfl (j_aload_n rfl rfl (j_gfr rfl hx49 (j_iload_n rfl rfl (j_iconst (1 : Int32) rfl k32_1 (j_iadd rfl (j_ial rfl hx50 (j_ias rfl hσ51 (j_aload_n rfl rfl (j_gfr rfl hx52 (j_iload_n rfl rfl (j_aload_n rfl rfl (j_gfr rfl hx53 (j_iload_n rfl rfl (j_iconst (2 : Int32) rfl k32_2 (j_iadd rfl (j_ial rfl hx54 (j_ias rfl hσ55 (j_aload_n rfl rfl (j_gfr rfl hx56 (j_iload_n rfl rfl (j_aload_n rfl rfl (j_gfr rfl hx57 (j_iload_n rfl rfl (j_iconst (3 : Int32) rfl k32_3 (j_iadd rfl (j_ial rfl hx58 (j_ias rfl hσ59 (j_aload_n rfl rfl (j_gfr rfl hx60 (j_iload_n rfl rfl (j_aload_n rfl rfl (j_gfr rfl hx61 (j_iload_n rfl rfl (j_iconst (4 : Int32) rfl k32_4 (j_iadd rfl (j_ial rfl hx62 (j_ias rfl hσ63 (j_aload_n rfl rfl (j_gfr rfl hx64 (j_iload_n rfl rfl (j_aload_n rfl rfl (j_gfr rfl hx65 (j_sipush (864 : Int32) rfl ks_864 (j_iload_n rfl rfl (j_imul rfl (j_iconst (3 : Int32) rfl k32_3 (j_iload_n rfl rfl (j_imul rfl (j_iadd rfl (j_lal rfl hx66 (j_las rfl hσ67 (j_aload_n rfl rfl (j_gfr rfl hx68 (j_iload_n rfl rfl (j_aload_n rfl rfl (j_gfr rfl hx69 (j_sipush (864 : Int32) rfl ks_864 (j_iload_n rfl rfl (j_imul rfl (j_iconst (3 : Int32) rfl k32_3 (j_iload_n rfl rfl (j_imul rfl (j_iadd rfl (j_iconst (1 : Int32) rfl k32_1 (j_iadd rfl (j_lal rfl hx70 (j_las rfl hσ71 (j_aload_n rfl rfl (j_gfr rfl hx72 (j_iload_n rfl rfl (j_aload_n rfl rfl (j_gfr rfl hx73 (j_sipush (864 : Int32) rfl ks_864 (j_iload_n rfl rfl (j_imul rfl (j_iconst (3 : Int32) rfl k32_3 (j_iload_n rfl rfl (j_imul rfl (j_iadd rfl (j_iconst (2 : Int32) rfl k32_2 (j_iadd rfl (j_lal rfl hx74 (j_las rfl hσ75 (j_iinc [some (.ref v0), some (.int v1), some (.int (v2 + (1 : Int32))), some (.int (((1440 : Int32) * v1) + ((5 : Int32) * v2)))] (v2 + (1 : Int32)) rfl rfl (by rw [k32_1]) (Or.inr rfl) rfl (j_goto rfl (j_weak (l := [some (.ref v0), some (.int v1), some (.int (v2 + (1 : Int32))), none]) (And.intro (Or.inr rfl) (And.intro (Or.inr rfl) (And.intro (Or.inr rfl) (And.intro (Or.inl rfl) True.intro)))) (g))))))))))))))))))))))))))))))))))))))))))))))))))))))))))))))))))))))))))))))))))))))))))))))))))))))))))) (l_Mo_takesBack_L158 hd v0 v1 hX n (v2 + (1 : Int32)) σ75)
    exact J_some (fun h => j_icmp_t rfl (cc_ge_t h43) (j_weak (l := [none, none, none, none]) (And.intro (Or.inl rfl) (And.intro (Or.inl rfl) (And.intro (Or.inl rfl) (And.intro (Or.inr rfl) True.intro)))) (hX _ _ h)))

def f_Mo_takesBack (v0 : Nat) (v1 : Int32) (σ : q_H) : Option ((Unit) × q_H) := q_sq (f_Mo_takesBack_L2 v0 v1 q_FU (0 : Int32) σ) fun (t6 : Unit) σ7 => q_sq (f_Mo_takesBack_L33 v0 v1 q_FU (0 : Int32) σ7) fun (t41 : Unit) σ42 => q_sq (f_Mo_takesBack_L158 v0 v1 q_FU (0 : Int32) σ42) fun (t76 : Unit) σ77 => some ((), σ77)
set_option maxRecDepth 100000 in
theorem b_Mo_takesBack {fo : Option Nat} {d : Nat} (hd : 1 ≤ d + 1) {o : q_O} {σ' : q_H} (v0 : Nat) (v1 : Int32) (σ : q_H) : q_J (fun (r : Unit) (σ1 : q_H) => o = .inl none ∧ σ' = σ1) (f_Mo_takesBack v0 v1 σ) (q_G (q_rf fo) d m_Mo_takesBack o σ' 0 [some (.ref v0), some (.int v1), none, none] [] σ) := by
  unfold f_Mo_takesBack
  refine J_sq (fun (t6 : Unit) (σ7 : q_H) => q_G (q_rf fo) d m_Mo_takesBack o σ' 31 [some (.ref v0), some (.int v1), none, none] [] σ7) (q_J.step (fun g => j_iconst (0 : Int32) rfl k32_0 (j_istore_n [some (.ref v0), some (.int v1), some (.int (0 : Int32)), none] rfl rfl (Or.inr rfl) rfl (g))) (l_Mo_takesBack_L2 hd v0 v1 (fun _ _ h => h) q_FU (0 : Int32) σ)) (fun t6 σ7 => ?_)
  refine J_sq (fun (t41 : Unit) (σ42 : q_H) => q_G (q_rf fo) d m_Mo_takesBack o σ' 156 [some (.ref v0), some (.int v1), none, none] [] σ42) (q_J.step (fun g => j_iconst (0 : Int32) rfl k32_0 (j_istore_n [some (.ref v0), some (.int v1), some (.int (0 : Int32)), none] rfl rfl (Or.inr rfl) rfl (g))) (l_Mo_takesBack_L33 hd v0 v1 (fun _ _ h => h) q_FU (0 : Int32) σ7)) (fun t41 σ42 => ?_)
  refine J_sq (fun (t76 : Unit) (σ77 : q_H) => q_G (q_rf fo) d m_Mo_takesBack o σ' 313 [none, none, none, none] [] σ77) (q_J.step (fun g => j_iconst (0 : Int32) rfl k32_0 (j_istore_n [some (.ref v0), some (.int v1), some (.int (0 : Int32)), none] rfl rfl (Or.inr rfl) rfl (g))) (l_Mo_takesBack_L158 hd v0 v1 (fun _ _ h => h) q_FU (0 : Int32) σ42)) (fun t76 σ77 => ?_)
  exact J_some (fun h => j_vret rfl rfl h)
theorem t_Mo_takesBack {fo : Option Nat} {d : Nat} (hd : 1 ≤ d) {v0 : Nat} {v1 : Int32} {σ σ1 : q_H} {r : Unit} (h : f_Mo_takesBack v0 v1 σ = some (r, σ1)) : q_Rel (q_rf fo) q_Ms d 276 [.ref v0, .int v1] σ (.inl none) σ1 := by
  obtain ⟨d, rfl⟩ : ∃ d1, d = d1 + 1 := ⟨d - 1, by omega⟩
  exact q_Rel.of rfl rfl (b_Mo_takesBack hd _ _ σ _ _ h ⟨rfl, rfl⟩)

def f_Mo_keeps_L2 (v0 : Nat) (v1 : Int32) : Nat → Int32 → q_H → Option ((Unit) × q_H)
  | 0, _, _ => none
  | n + 1, v2, σ => if v2 < (6 : Int32) then ((q_gr (q_gf σ 12 v0 62)).bind fun x2 => (q_gr (q_gf σ 12 v0 1)).bind fun x3 => (q_gi (q_ga σ 20 x3 v2)).bind fun x4 => (q_sa σ 20 x2 (((6 : Int32) * v1) + v2) (.int x4)).bind fun σ5 => f_Mo_keeps_L2 v0 v1 n (v2 + (1 : Int32)) σ5) else (some ((), σ))
set_option maxRecDepth 100000 in
theorem l_Mo_keeps_L2 {fo : Option Nat} {d : Nat} (hd : 1 ≤ d + 1) {o : q_O} {σ' : q_H} {E : (Unit) → q_H → Prop} (v0 : Nat) (v1 : Int32) (hX : ∀ (t : Unit) σ1, E (t) σ1 → q_G (q_rf fo) d m_Mo_keeps o σ' 31 [some (.ref v0), some (.int v1), none, none] [] σ1)  : ∀ (n : Nat) (v2 : Int32) (σ : q_H), q_J E (f_Mo_keeps_L2 v0 v1 n v2 σ) (q_G (q_rf fo) d m_Mo_keeps o σ' 2 [some (.ref v0), some (.int v1), some (.int v2), none] [] σ)
  | 0, v2, σ => J_none
  | n + 1, v2, σ => by
    unfold f_Mo_keeps_L2
    refine q_J.step (fun g => j_iload_n rfl rfl (j_bipush (6 : Int32) rfl kb_6 (g))) ?_
    refine J_ite (fun h1 => ?_) (fun h1 => ?_)
    · refine J_bind fun x2 hx2 => ?_
      refine J_bind fun x3 hx3 => ?_
      refine J_bind fun x4 hx4 => ?_
      refine J_bind fun σ5 hσ5 => ?_
      exact q_J.step (fun g => j_icmp_f rfl (cc_ge_f h1) (j_aload_n rfl rfl (j_gfr rfl hx2 (j_bipush (6 : Int32) rfl kb_6 (j_iload_n rfl rfl (j_imul rfl (j_iload_n rfl rfl (j_iadd rfl (j_aload_n rfl rfl (j_gfr rfl hx3 (j_iload_n rfl rfl (j_ial rfl hx4 (j_ias rfl hσ5 (j_iinc [some (.ref v0), some (.int v1), some (.int (v2 + (1 : Int32))), none] (v2 + (1 : Int32)) rfl rfl (by rw [k32_1]) (Or.inr rfl) rfl (j_goto rfl (g)))))))))))))))) (l_Mo_keeps_L2 hd v0 v1 hX n (v2 + (1 : Int32)) σ5)
    exact J_some (fun h => j_icmp_t rfl (cc_ge_t h1) (j_weak (l := [some (.ref v0), some (.int v1), none, none]) (And.intro (Or.inr rfl) (And.intro (Or.inr rfl) (And.intro (Or.inl rfl) (And.intro (Or.inr rfl) True.intro)))) (hX _ _ h)))

def f_Mo_keeps_L33 (v0 : Nat) (v1 : Int32) : Nat → Int32 → q_H → Option ((Unit) × q_H)
  | 0, _, _ => none
  | n + 1, v2, σ => if v2 < (24 : Int32) then ((q_gr (q_gf σ 12 v0 63)).bind fun x9 => (q_gr (q_gf σ 12 v0 2)).bind fun x10 => (q_gi (q_ga σ 22 x10 v2)).bind fun x11 => q_sq (if x11 = (0 : Int32) then (some ((0 : Int32), σ)) else (some ((1 : Int32), σ))) fun (t13 : Int32) σ14 => (q_sa σ14 20 x9 (((144 : Int32) * v1) + ((6 : Int32) * v2)) (.int t13)).bind fun σ15 => (q_gr (q_gf σ15 12 v0 63)).bind fun x16 => (q_gr (q_gf σ15 12 v0 3)).bind fun x17 => (q_gi (q_ga σ15 22 x17 v2)).bind fun x18 => q_sq (if x18 = (0 : Int32) then (some ((0 : Int32), σ15)) else (some ((1 : Int32), σ15))) fun (t20 : Int32) σ21 => (q_sa σ21 20 x16 ((((144 : Int32) * v1) + ((6 : Int32) * v2)) + (1 : Int32)) (.int t20)).bind fun σ22 => (q_gr (q_gf σ22 12 v0 63)).bind fun x23 => (q_gr (q_gf σ22 12 v0 4)).bind fun x24 => (q_gi (q_ga σ22 20 x24 v2)).bind fun x25 => (q_sa σ22 20 x23 ((((144 : Int32) * v1) + ((6 : Int32) * v2)) + (2 : Int32)) (.int x25)).bind fun σ26 => (q_gr (q_gf σ26 12 v0 63)).bind fun x27 => (q_gr (q_gf σ26 12 v0 5)).bind fun x28 => (q_gi (q_ga σ26 20 x28 v2)).bind fun x29 => (q_sa σ26 20 x27 ((((144 : Int32) * v1) + ((6 : Int32) * v2)) + (3 : Int32)) (.int x29)).bind fun σ30 => (q_gr (q_gf σ30 12 v0 63)).bind fun x31 => (q_gr (q_gf σ30 12 v0 6)).bind fun x32 => (q_gi (q_ga σ30 20 x32 v2)).bind fun x33 => (q_sa σ30 20 x31 ((((144 : Int32) * v1) + ((6 : Int32) * v2)) + (4 : Int32)) (.int x33)).bind fun σ34 => (q_gr (q_gf σ34 12 v0 63)).bind fun x35 => (q_gr (q_gf σ34 12 v0 7)).bind fun x36 => (q_gi (q_ga σ34 20 x36 v2)).bind fun x37 => (q_sa σ34 20 x35 ((((144 : Int32) * v1) + ((6 : Int32) * v2)) + (5 : Int32)) (.int x37)).bind fun σ38 => f_Mo_keeps_L33 v0 v1 n (v2 + (1 : Int32)) σ38) else (some ((), σ))
set_option maxRecDepth 100000 in
theorem l_Mo_keeps_L33 {fo : Option Nat} {d : Nat} (hd : 1 ≤ d + 1) {o : q_O} {σ' : q_H} {E : (Unit) → q_H → Prop} (v0 : Nat) (v1 : Int32) (hX : ∀ (t : Unit) σ1, E (t) σ1 → q_G (q_rf fo) d m_Mo_keeps o σ' 154 [some (.ref v0), some (.int v1), none, none] [] σ1)  : ∀ (n : Nat) (v2 : Int32) (σ : q_H), q_J E (f_Mo_keeps_L33 v0 v1 n v2 σ) (q_G (q_rf fo) d m_Mo_keeps o σ' 33 [some (.ref v0), some (.int v1), some (.int v2), none] [] σ)
  | 0, v2, σ => J_none
  | n + 1, v2, σ => by
    unfold f_Mo_keeps_L33
    refine q_J.step (fun g => j_iload_n rfl rfl (j_bipush (24 : Int32) rfl kb_24 (g))) ?_
    refine J_ite (fun h8 => ?_) (fun h8 => ?_)
    · refine J_bind fun x9 hx9 => ?_
      refine J_bind fun x10 hx10 => ?_
      refine J_bind fun x11 hx11 => ?_
      refine q_J.step (fun g => j_icmp_f rfl (cc_ge_f h8) (j_sipush (144 : Int32) rfl ks_144 (j_iload_n rfl rfl (j_imul rfl (j_bipush (6 : Int32) rfl kb_6 (j_iload_n rfl rfl (j_imul rfl (j_iadd rfl (j_istore_n [some (.ref v0), some (.int v1), some (.int v2), some (.int (((144 : Int32) * v1) + ((6 : Int32) * v2)))] rfl rfl (Or.inr rfl) rfl (j_aload_n rfl rfl (j_gfr rfl hx9 (j_iload_n rfl rfl (j_aload_n rfl rfl (j_gfr rfl hx10 (g))))))))))))))) ?_
      refine q_J.step (fun g => j_iload_n rfl rfl (j_bal rfl rfl hx11 (g))) ?_
      refine J_sq (fun (t13 : Int32) (σ14 : q_H) => q_G (q_rf fo) d m_Mo_keeps o σ' 69 [some (.ref v0), some (.int v1), some (.int v2), some (.int (((144 : Int32) * v1) + ((6 : Int32) * v2)))] [.int t13, .int (((144 : Int32) * v1) + ((6 : Int32) * v2)), .ref x9] σ14) ?_ (fun t13 σ14 => ?_)
      · refine J_ite (fun h12 => ?_) (fun h12 => ?_)
        · exact J_some (fun h => j_if_t rfl (cc_eq_t h12) (j_iconst (0 : Int32) rfl k32_0 (h)))
        exact J_some (fun h => j_if_f rfl (cc_eq_f h12) (j_iconst (1 : Int32) rfl k32_1 (j_goto rfl (h))))
      refine J_bind fun σ15 hσ15 => ?_
      refine J_bind fun x16 hx16 => ?_
      refine J_bind fun x17 hx17 => ?_
      refine J_bind fun x18 hx18 => ?_
      refine q_J.step (fun g => j_ias rfl hσ15 (j_aload_n rfl rfl (j_gfr rfl hx16 (j_iload_n rfl rfl (j_iconst (1 : Int32) rfl k32_1 (j_iadd rfl (j_aload_n rfl rfl (j_gfr rfl hx17 (j_iload_n rfl rfl (j_bal rfl rfl hx18 (g))))))))))) ?_
      refine J_sq (fun (t20 : Int32) (σ21 : q_H) => q_G (q_rf fo) d m_Mo_keeps o σ' 91 [some (.ref v0), some (.int v1), some (.int v2), some (.int (((144 : Int32) * v1) + ((6 : Int32) * v2)))] [.int t20, .int ((((144 : Int32) * v1) + ((6 : Int32) * v2)) + (1 : Int32)), .ref x16] σ21) ?_ (fun t20 σ21 => ?_)
      · refine J_ite (fun h19 => ?_) (fun h19 => ?_)
        · exact J_some (fun h => j_if_t rfl (cc_eq_t h19) (j_iconst (0 : Int32) rfl k32_0 (h)))
        exact J_some (fun h => j_if_f rfl (cc_eq_f h19) (j_iconst (1 : Int32) rfl k32_1 (j_goto rfl (h))))
      refine J_bind fun σ22 hσ22 => ?_
      refine J_bind fun x23 hx23 => ?_
      refine J_bind fun x24 hx24 => ?_
      refine J_bind fun x25 hx25 => ?_
      refine J_bind fun σ26 hσ26 => ?_
      refine J_bind fun x27 hx27 => ?_
      refine J_bind fun x28 hx28 => ?_
      refine J_bind fun x29 hx29 => ?_
      refine J_bind fun σ30 hσ30 => ?_
      refine J_bind fun x31 hx31 => ?_
      refine J_bind fun x32 hx32 => ?_
      refine J_bind fun x33 hx33 => ?_
      refine J_bind fun σ34 hσ34 => ?_
      refine J_bind fun x35 hx35 => ?_
      refine J_bind fun x36 hx36 => ?_
      refine J_bind fun x37 hx37 => ?_
      refine J_bind fun σ38 hσ38 => ?_
      exact q_J.step (fun g => j_ias rfl hσ22 (j_aload_n rfl rfl (j_gfr rfl hx23 (j_iload_n rfl rfl (j_iconst (2 : Int32) rfl k32_2 (j_iadd rfl (j_aload_n rfl rfl (j_gfr rfl hx24 (j_iload_n rfl rfl (j_ial rfl hx25 (j_ias rfl hσ26 (j_aload_n rfl rfl (j_gfr rfl hx27 (j_iload_n rfl rfl (j_iconst (3 : Int32) rfl k32_3 (j_iadd rfl (j_aload_n rfl rfl (j_gfr rfl hx28 (j_iload_n rfl rfl (j_ial rfl hx29 (j_ias rfl hσ30 (j_aload_n rfl rfl (j_gfr rfl hx31 (j_iload_n rfl rfl (j_iconst (4 : Int32) rfl k32_4 (j_iadd rfl (j_aload_n rfl rfl (j_gfr rfl hx32 (j_iload_n rfl rfl (j_ial rfl hx33 (j_ias rfl hσ34 (j_aload_n rfl rfl (j_gfr rfl hx35 (j_iload_n rfl rfl (j_iconst (5 : Int32) rfl k32_5 (j_iadd rfl (j_aload_n rfl rfl (j_gfr rfl hx36 (j_iload_n rfl rfl (j_ial rfl hx37 (j_ias rfl hσ38 (j_iinc [some (.ref v0), some (.int v1), some (.int (v2 + (1 : Int32))), some (.int (((144 : Int32) * v1) + ((6 : Int32) * v2)))] (v2 + (1 : Int32)) rfl rfl (by rw [k32_1]) (Or.inr rfl) rfl (j_goto rfl (j_weak (l := [some (.ref v0), some (.int v1), some (.int (v2 + (1 : Int32))), none]) (And.intro (Or.inr rfl) (And.intro (Or.inr rfl) (And.intro (Or.inr rfl) (And.intro (Or.inl rfl) True.intro)))) (g))))))))))))))))))))))))))))))))))))))))))))) (l_Mo_keeps_L33 hd v0 v1 hX n (v2 + (1 : Int32)) σ38)
    exact J_some (fun h => j_icmp_t rfl (cc_ge_t h8) (j_weak (l := [some (.ref v0), some (.int v1), none, none]) (And.intro (Or.inr rfl) (And.intro (Or.inr rfl) (And.intro (Or.inl rfl) (And.intro (Or.inr rfl) True.intro)))) (hX _ _ h)))

def f_Mo_keeps_L156 (v0 : Nat) (v1 : Int32) : Nat → Int32 → q_H → Option ((Unit) × q_H)
  | 0, _, _ => none
  | n + 1, v2, σ => if v2 < (288 : Int32) then ((q_gr (q_gf σ 12 v0 64)).bind fun x42 => (q_gr (q_gf σ 12 v0 8)).bind fun x43 => (q_gi (q_ga σ 20 x43 v2)).bind fun x44 => (q_sa σ 20 x42 (((1440 : Int32) * v1) + ((5 : Int32) * v2)) (.int x44)).bind fun σ45 => (q_gr (q_gf σ45 12 v0 64)).bind fun x46 => (q_gr (q_gf σ45 12 v0 9)).bind fun x47 => (q_gi (q_ga σ45 20 x47 v2)).bind fun x48 => (q_sa σ45 20 x46 ((((1440 : Int32) * v1) + ((5 : Int32) * v2)) + (1 : Int32)) (.int x48)).bind fun σ49 => (q_gr (q_gf σ49 12 v0 64)).bind fun x50 => (q_gr (q_gf σ49 12 v0 10)).bind fun x51 => (q_gi (q_ga σ49 20 x51 v2)).bind fun x52 => (q_sa σ49 20 x50 ((((1440 : Int32) * v1) + ((5 : Int32) * v2)) + (2 : Int32)) (.int x52)).bind fun σ53 => (q_gr (q_gf σ53 12 v0 64)).bind fun x54 => (q_gr (q_gf σ53 12 v0 11)).bind fun x55 => (q_gi (q_ga σ53 20 x55 v2)).bind fun x56 => (q_sa σ53 20 x54 ((((1440 : Int32) * v1) + ((5 : Int32) * v2)) + (3 : Int32)) (.int x56)).bind fun σ57 => (q_gr (q_gf σ57 12 v0 64)).bind fun x58 => (q_gr (q_gf σ57 12 v0 12)).bind fun x59 => (q_gi (q_ga σ57 20 x59 v2)).bind fun x60 => (q_sa σ57 20 x58 ((((1440 : Int32) * v1) + ((5 : Int32) * v2)) + (4 : Int32)) (.int x60)).bind fun σ61 => (q_gr (q_gf σ61 12 v0 65)).bind fun x62 => (q_gr (q_gf σ61 12 v0 13)).bind fun x63 => (q_gl' (q_ga σ61 21 x63 v2)).bind fun x64 => (q_sa σ61 21 x62 (((864 : Int32) * v1) + ((3 : Int32) * v2)) (.long x64)).bind fun σ65 => (q_gr (q_gf σ65 12 v0 65)).bind fun x66 => (q_gr (q_gf σ65 12 v0 14)).bind fun x67 => (q_gl' (q_ga σ65 21 x67 v2)).bind fun x68 => (q_sa σ65 21 x66 ((((864 : Int32) * v1) + ((3 : Int32) * v2)) + (1 : Int32)) (.long x68)).bind fun σ69 => (q_gr (q_gf σ69 12 v0 65)).bind fun x70 => (q_gr (q_gf σ69 12 v0 15)).bind fun x71 => (q_gl' (q_ga σ69 21 x71 v2)).bind fun x72 => (q_sa σ69 21 x70 ((((864 : Int32) * v1) + ((3 : Int32) * v2)) + (2 : Int32)) (.long x72)).bind fun σ73 => f_Mo_keeps_L156 v0 v1 n (v2 + (1 : Int32)) σ73) else (some ((), σ))
set_option maxRecDepth 100000 in
theorem l_Mo_keeps_L156 {fo : Option Nat} {d : Nat} (hd : 1 ≤ d + 1) {o : q_O} {σ' : q_H} {E : (Unit) → q_H → Prop} (v0 : Nat) (v1 : Int32) (hX : ∀ (t : Unit) σ1, E (t) σ1 → q_G (q_rf fo) d m_Mo_keeps o σ' 311 [none, none, none, none] [] σ1)  : ∀ (n : Nat) (v2 : Int32) (σ : q_H), q_J E (f_Mo_keeps_L156 v0 v1 n v2 σ) (q_G (q_rf fo) d m_Mo_keeps o σ' 156 [some (.ref v0), some (.int v1), some (.int v2), none] [] σ)
  | 0, v2, σ => J_none
  | n + 1, v2, σ => by
    unfold f_Mo_keeps_L156
    refine q_J.step (fun g => j_iload_n rfl rfl (j_sipush (288 : Int32) rfl ks_288 (g))) ?_
    refine J_ite (fun h41 => ?_) (fun h41 => ?_)
    · refine J_bind fun x42 hx42 => ?_
      refine J_bind fun x43 hx43 => ?_
      refine J_bind fun x44 hx44 => ?_
      refine J_bind fun σ45 hσ45 => ?_
      refine J_bind fun x46 hx46 => ?_
      refine J_bind fun x47 hx47 => ?_
      refine J_bind fun x48 hx48 => ?_
      refine J_bind fun σ49 hσ49 => ?_
      refine J_bind fun x50 hx50 => ?_
      refine J_bind fun x51 hx51 => ?_
      refine J_bind fun x52 hx52 => ?_
      refine J_bind fun σ53 hσ53 => ?_
      refine J_bind fun x54 hx54 => ?_
      refine J_bind fun x55 hx55 => ?_
      refine J_bind fun x56 hx56 => ?_
      refine J_bind fun σ57 hσ57 => ?_
      refine J_bind fun x58 hx58 => ?_
      refine J_bind fun x59 hx59 => ?_
      refine J_bind fun x60 hx60 => ?_
      refine J_bind fun σ61 hσ61 => ?_
      refine J_bind fun x62 hx62 => ?_
      refine J_bind fun x63 hx63 => ?_
      refine J_bind fun x64 hx64 => ?_
      refine J_bind fun σ65 hσ65 => ?_
      refine J_bind fun x66 hx66 => ?_
      refine J_bind fun x67 hx67 => ?_
      refine J_bind fun x68 hx68 => ?_
      refine J_bind fun σ69 hσ69 => ?_
      refine J_bind fun x70 hx70 => ?_
      refine J_bind fun x71 hx71 => ?_
      refine J_bind fun x72 hx72 => ?_
      refine J_bind fun σ73 hσ73 => ?_
      exact q_J.step (fun g => j_icmp_f rfl (cc_ge_f h41) (j_sipush (1440 : Int32) rfl ks_1440 (j_iload_n rfl rfl (j_imul rfl (j_iconst (5 : Int32) rfl k32_5 (j_iload_n rfl rfl (j_imul rfl (j_iadd rfl (j_istore_n [some (.ref v0), some (.int v1), some (.int v2), some (.int (((1440 : Int32) * v1) + ((5 : Int32) * v2)))] rfl rfl (Or.inr rfl) rfl (j_aload_n rfl rfl (j_gfr rfl hx42 (j_iload_n rfl rfl (j_aload_n rfl rfl (j_gfr rfl hx43 (j_iload_n rfl rfl (j_ial rfl hx44 (j_ias rfl hσ45 (j_aload_n rfl rfl (j_gfr rfl hx46 (j_iload_n rfl rfl (j_iconst (1 : Int32) rfl k32_1 (j_iadd rfl (j_aload_n rfl rfl (j_gfr rfl hx47 (j_iload_n rfl rfl (j_ial rfl hx48 (j_ias rfl hσ49 (j_aload_n rfl rfl (j_gfr rfl hx50 (j_iload_n rfl rfl (j_iconst (2 : Int32) rfl k32_2 (j_iadd rfl (j_aload_n rfl rfl (j_gfr rfl hx51 (j_iload_n rfl rfl (j_ial rfl hx52 (j_ias rfl hσ53 (j_aload_n rfl rfl (j_gfr rfl hx54 (j_iload_n rfl rfl (j_iconst (3 : Int32) rfl k32_3 (j_iadd rfl (j_aload_n rfl rfl (j_gfr rfl hx55 (j_iload_n rfl rfl (j_ial rfl hx56 (j_ias rfl hσ57 (j_aload_n rfl rfl (j_gfr rfl hx58 (j_iload_n rfl rfl (j_iconst (4 : Int32) rfl k32_4 (j_iadd rfl (j_aload_n rfl rfl (j_gfr rfl hx59 (j_iload_n rfl rfl (j_ial rfl hx60 (j_ias rfl hσ61 (j_aload_n rfl rfl (j_gfr rfl hx62 (j_sipush (864 : Int32) rfl ks_864 (j_iload_n rfl rfl (j_imul rfl (j_iconst (3 : Int32) rfl k32_3 (j_iload_n rfl rfl (j_imul rfl (j_iadd rfl (j_aload_n rfl rfl (j_gfr rfl hx63 (j_iload_n rfl rfl (j_lal rfl hx64 (j_las rfl hσ65 (j_aload_n rfl rfl (j_gfr rfl hx66 (j_sipush (864 : Int32) rfl ks_864 (j_iload_n rfl rfl (j_imul rfl (j_iconst (3 : Int32) rfl k32_3 (j_iload_n rfl rfl (j_imul rfl (j_iadd rfl (j_iconst (1 : Int32) rfl k32_1 (j_iadd rfl (j_aload_n rfl rfl (j_gfr rfl hx67 (j_iload_n rfl rfl (j_lal rfl hx68 (j_las rfl hσ69 (j_aload_n rfl rfl (j_gfr rfl hx70 (j_sipush (864 : Int32) rfl ks_864 (j_iload_n rfl rfl (j_imul rfl (j_iconst (3 : Int32) rfl k32_3 (j_iload_n rfl rfl (j_imul rfl (j_iadd rfl (j_iconst (2 : Int32) rfl k32_2 (j_iadd rfl (j_aload_n rfl rfl (j_gfr rfl hx71 (j_iload_n rfl rfl (j_lal rfl hx72 (j_las rfl hσ73 (j_iinc [some (.ref v0), some (.int v1), some (.int (v2 + (1 : Int32))), some (.int (((1440 : Int32) * v1) + ((5 : Int32) * v2)))] (v2 + (1 : Int32)) rfl rfl (by rw [k32_1]) (Or.inr rfl) rfl (j_goto rfl (j_weak (l := [some (.ref v0), some (.int v1), some (.int (v2 + (1 : Int32))), none]) (And.intro (Or.inr rfl) (And.intro (Or.inr rfl) (And.intro (Or.inr rfl) (And.intro (Or.inl rfl) True.intro)))) (g))))))))))))))))))))))))))))))))))))))))))))))))))))))))))))))))))))))))))))))))))))))))))))))))))))))))))) (l_Mo_keeps_L156 hd v0 v1 hX n (v2 + (1 : Int32)) σ73)
    exact J_some (fun h => j_icmp_t rfl (cc_ge_t h41) (j_weak (l := [none, none, none, none]) (And.intro (Or.inl rfl) (And.intro (Or.inl rfl) (And.intro (Or.inl rfl) (And.intro (Or.inr rfl) True.intro)))) (hX _ _ h)))

def f_Mo_keeps (v0 : Nat) (v1 : Int32) (σ : q_H) : Option ((Unit) × q_H) := q_sq (f_Mo_keeps_L2 v0 v1 q_FU (0 : Int32) σ) fun (t6 : Unit) σ7 => q_sq (f_Mo_keeps_L33 v0 v1 q_FU (0 : Int32) σ7) fun (t39 : Unit) σ40 => q_sq (f_Mo_keeps_L156 v0 v1 q_FU (0 : Int32) σ40) fun (t74 : Unit) σ75 => some ((), σ75)
set_option maxRecDepth 100000 in
theorem b_Mo_keeps {fo : Option Nat} {d : Nat} (hd : 1 ≤ d + 1) {o : q_O} {σ' : q_H} (v0 : Nat) (v1 : Int32) (σ : q_H) : q_J (fun (r : Unit) (σ1 : q_H) => o = .inl none ∧ σ' = σ1) (f_Mo_keeps v0 v1 σ) (q_G (q_rf fo) d m_Mo_keeps o σ' 0 [some (.ref v0), some (.int v1), none, none] [] σ) := by
  unfold f_Mo_keeps
  refine J_sq (fun (t6 : Unit) (σ7 : q_H) => q_G (q_rf fo) d m_Mo_keeps o σ' 31 [some (.ref v0), some (.int v1), none, none] [] σ7) (q_J.step (fun g => j_iconst (0 : Int32) rfl k32_0 (j_istore_n [some (.ref v0), some (.int v1), some (.int (0 : Int32)), none] rfl rfl (Or.inr rfl) rfl (g))) (l_Mo_keeps_L2 hd v0 v1 (fun _ _ h => h) q_FU (0 : Int32) σ)) (fun t6 σ7 => ?_)
  refine J_sq (fun (t39 : Unit) (σ40 : q_H) => q_G (q_rf fo) d m_Mo_keeps o σ' 154 [some (.ref v0), some (.int v1), none, none] [] σ40) (q_J.step (fun g => j_iconst (0 : Int32) rfl k32_0 (j_istore_n [some (.ref v0), some (.int v1), some (.int (0 : Int32)), none] rfl rfl (Or.inr rfl) rfl (g))) (l_Mo_keeps_L33 hd v0 v1 (fun _ _ h => h) q_FU (0 : Int32) σ7)) (fun t39 σ40 => ?_)
  refine J_sq (fun (t74 : Unit) (σ75 : q_H) => q_G (q_rf fo) d m_Mo_keeps o σ' 311 [none, none, none, none] [] σ75) (q_J.step (fun g => j_iconst (0 : Int32) rfl k32_0 (j_istore_n [some (.ref v0), some (.int v1), some (.int (0 : Int32)), none] rfl rfl (Or.inr rfl) rfl (g))) (l_Mo_keeps_L156 hd v0 v1 (fun _ _ h => h) q_FU (0 : Int32) σ40)) (fun t74 σ75 => ?_)
  exact J_some (fun h => j_vret rfl rfl h)
theorem t_Mo_keeps {fo : Option Nat} {d : Nat} (hd : 1 ≤ d) {v0 : Nat} {v1 : Int32} {σ σ1 : q_H} {r : Unit} (h : f_Mo_keeps v0 v1 σ = some (r, σ1)) : q_Rel (q_rf fo) q_Ms d 277 [.ref v0, .int v1] σ (.inl none) σ1 := by
  obtain ⟨d, rfl⟩ : ∃ d1, d = d1 + 1 := ⟨d - 1, by omega⟩
  exact q_Rel.of rfl rfl (b_Mo_keeps hd _ _ σ _ _ h ⟨rfl, rfl⟩)

def f_Mo_side (v0 : Nat) (v1 : Int32) (v2 : Int32) (σ : q_H) : Option ((Int32) × q_H) := (q_sf σ 12 v0 0 (.int (0 : Int32))).bind fun σ1 => q_sq (f_Mo_within v1 (0 : Int32) (5 : Int32) σ1) fun x3 σ2 => if x3 = (0 : Int32) then (some ((0 : Int32), σ2)) else (q_sq (f_Mo_within v2 (0 : Int32) (1 : Int32) σ2) fun x6 σ5 => if x6 = (0 : Int32) then (some ((0 : Int32), σ5)) else ((q_gr (q_gf σ5 12 v0 1)).bind fun x8 => (q_sa σ5 20 x8 v1 (.int v2)).bind fun σ9 => some ((1 : Int32), σ9)))
set_option maxRecDepth 100000 in
theorem b_Mo_side {fo : Option Nat} {d : Nat} (hd : 2 ≤ d + 1) {o : q_O} {σ' : q_H} (v0 : Nat) (v1 : Int32) (v2 : Int32) (σ : q_H) : q_J (fun (r : Int32) (σ1 : q_H) => o = .inl (some (.int r)) ∧ σ' = σ1) (f_Mo_side v0 v1 v2 σ) (q_G (q_rf fo) d m_Mo_side o σ' 0 [some (.ref v0), some (.int v1), some (.int v2)] [] σ) := by
  unfold f_Mo_side
  refine J_bind fun σ1 hσ1 => ?_
  refine J_cl fun x3 σ2 hσ2 => ?_
  refine q_J.step (fun g => j_aload_n rfl rfl (j_iconst (0 : Int32) rfl k32_0 (j_putf rfl rfl rfl rfl hσ1 (j_iload_n rfl rfl (j_iconst (0 : Int32) rfl k32_0 (j_iconst (5 : Int32) rfl k32_5 (j_s1 [.int v1, .int (0 : Int32), .int (5 : Int32)] [] rfl rfl rfl rfl rfl (t_Mo_within (by omega) hσ2) (g)))))))) ?_
  refine J_ite (fun h4 => ?_) (fun h4 => ?_)
  · exact J_some (fun h => j_if_t rfl (cc_eq_t h4) (j_iconst (0 : Int32) rfl k32_0 (j_iret rfl (q_zr (Or.inl rfl)) h)))
  refine J_cl fun x6 σ5 hσ5 => ?_
  refine q_J.step (fun g => j_if_f rfl (cc_eq_f h4) (j_iload_n rfl rfl (j_iconst (0 : Int32) rfl k32_0 (j_iconst (1 : Int32) rfl k32_1 (j_s1 [.int v2, .int (0 : Int32), .int (1 : Int32)] [] rfl rfl rfl rfl rfl (t_Mo_within (by omega) hσ5) (g)))))) ?_
  refine J_ite (fun h7 => ?_) (fun h7 => ?_)
  · exact J_some (fun h => j_if_f rfl (cc_ne_f h7) (j_iconst (0 : Int32) rfl k32_0 (j_iret rfl (q_zr (Or.inl rfl)) h)))
  refine J_bind fun x8 hx8 => ?_
  refine J_bind fun σ9 hσ9 => ?_
  exact J_some (fun h => j_if_t rfl (cc_ne_t h7) (j_aload_n rfl rfl (j_gfr rfl hx8 (j_iload_n rfl rfl (j_iload_n rfl rfl (j_ias rfl hσ9 (j_iconst (1 : Int32) rfl k32_1 (j_iret rfl (q_zr (Or.inr rfl)) h))))))))
theorem t_Mo_side {fo : Option Nat} {d : Nat} (hd : 2 ≤ d) {v0 : Nat} {v1 : Int32} {v2 : Int32} {σ σ1 : q_H} {r : Int32} (h : f_Mo_side v0 v1 v2 σ = some (r, σ1)) : q_Rel (q_rf fo) q_Ms d 171 [.ref v0, .int v1, .int v2] σ (.inl (some (.int r))) σ1 := by
  obtain ⟨d, rfl⟩ : ∃ d1, d = d1 + 1 := ⟨d - 1, by omega⟩
  exact q_Rel.of rfl rfl (b_Mo_side hd _ _ _ σ _ _ h ⟨rfl, rfl⟩)

def f_Mo_sheet (v0 : Nat) (v1 : Int32) (v2 : Int32) (v3 : Int32) (σ : q_H) : Option ((Int32) × q_H) := (q_sf σ 12 v0 0 (.int (0 : Int32))).bind fun σ1 => q_sq (f_Mo_within v1 (0 : Int32) (23 : Int32) σ1) fun x3 σ2 => if x3 = (0 : Int32) then (some ((0 : Int32), σ2)) else (q_sq (f_Mo_within v2 (0 : Int32) (5 : Int32) σ2) fun x6 σ5 => if x6 = (0 : Int32) then (some ((0 : Int32), σ5)) else (q_sq (f_Mo_within v3 (0 : Int32) (7 : Int32) σ5) fun x9 σ8 => if x9 = (0 : Int32) then (some ((0 : Int32), σ8)) else ((q_gr (q_gf σ8 12 v0 2)).bind fun x11 => (q_sa σ8 22 x11 v1 (.int (1 : Int32))).bind fun σ12 => (q_gr (q_gf σ12 12 v0 3)).bind fun x13 => (q_sa σ12 22 x13 v1 (.int (0 : Int32))).bind fun σ14 => (q_gr (q_gf σ14 12 v0 4)).bind fun x15 => (q_sa σ14 20 x15 v1 (.int v2)).bind fun σ16 => (q_gr (q_gf σ16 12 v0 5)).bind fun x17 => (q_sa σ16 20 x17 v1 (.int v3)).bind fun σ18 => (q_gr (q_gf σ18 12 v0 6)).bind fun x19 => (q_sa σ18 20 x19 v1 (.int (2 : Int32))).bind fun σ20 => some ((1 : Int32), σ20))))
set_option maxRecDepth 100000 in
theorem b_Mo_sheet {fo : Option Nat} {d : Nat} (hd : 2 ≤ d + 1) {o : q_O} {σ' : q_H} (v0 : Nat) (v1 : Int32) (v2 : Int32) (v3 : Int32) (σ : q_H) : q_J (fun (r : Int32) (σ1 : q_H) => o = .inl (some (.int r)) ∧ σ' = σ1) (f_Mo_sheet v0 v1 v2 v3 σ) (q_G (q_rf fo) d m_Mo_sheet o σ' 0 [some (.ref v0), some (.int v1), some (.int v2), some (.int v3)] [] σ) := by
  unfold f_Mo_sheet
  refine J_bind fun σ1 hσ1 => ?_
  refine J_cl fun x3 σ2 hσ2 => ?_
  refine q_J.step (fun g => j_aload_n rfl rfl (j_iconst (0 : Int32) rfl k32_0 (j_putf rfl rfl rfl rfl hσ1 (j_iload_n rfl rfl (j_iconst (0 : Int32) rfl k32_0 (j_bipush (23 : Int32) rfl kb_23 (j_s1 [.int v1, .int (0 : Int32), .int (23 : Int32)] [] rfl rfl rfl rfl rfl (t_Mo_within (by omega) hσ2) (g)))))))) ?_
  refine J_ite (fun h4 => ?_) (fun h4 => ?_)
  · exact J_some (fun h => j_if_t rfl (cc_eq_t h4) (j_iconst (0 : Int32) rfl k32_0 (j_iret rfl (q_zr (Or.inl rfl)) h)))
  refine J_cl fun x6 σ5 hσ5 => ?_
  refine q_J.step (fun g => j_if_f rfl (cc_eq_f h4) (j_iload_n rfl rfl (j_iconst (0 : Int32) rfl k32_0 (j_iconst (5 : Int32) rfl k32_5 (j_s1 [.int v2, .int (0 : Int32), .int (5 : Int32)] [] rfl rfl rfl rfl rfl (t_Mo_within (by omega) hσ5) (g)))))) ?_
  refine J_ite (fun h7 => ?_) (fun h7 => ?_)
  · exact J_some (fun h => j_if_t rfl (cc_eq_t h7) (j_iconst (0 : Int32) rfl k32_0 (j_iret rfl (q_zr (Or.inl rfl)) h)))
  refine J_cl fun x9 σ8 hσ8 => ?_
  refine q_J.step (fun g => j_if_f rfl (cc_eq_f h7) (j_iload_n rfl rfl (j_iconst (0 : Int32) rfl k32_0 (j_bipush (7 : Int32) rfl kb_7 (j_s1 [.int v3, .int (0 : Int32), .int (7 : Int32)] [] rfl rfl rfl rfl rfl (t_Mo_within (by omega) hσ8) (g)))))) ?_
  refine J_ite (fun h10 => ?_) (fun h10 => ?_)
  · exact J_some (fun h => j_if_f rfl (cc_ne_f h10) (j_iconst (0 : Int32) rfl k32_0 (j_iret rfl (q_zr (Or.inl rfl)) h)))
  refine J_bind fun x11 hx11 => ?_
  refine J_bind fun σ12 hσ12 => ?_
  refine J_bind fun x13 hx13 => ?_
  refine J_bind fun σ14 hσ14 => ?_
  refine J_bind fun x15 hx15 => ?_
  refine J_bind fun σ16 hσ16 => ?_
  refine J_bind fun x17 hx17 => ?_
  refine J_bind fun σ18 hσ18 => ?_
  refine J_bind fun x19 hx19 => ?_
  refine J_bind fun σ20 hσ20 => ?_
  exact J_some (fun h => j_if_t rfl (cc_ne_t h10) (j_aload_n rfl rfl (j_gfr rfl hx11 (j_iload_n rfl rfl (j_iconst (1 : Int32) rfl k32_1 (j_bas rfl (by decide) hσ12 (j_aload_n rfl rfl (j_gfr rfl hx13 (j_iload_n rfl rfl (j_iconst (0 : Int32) rfl k32_0 (j_bas rfl (by decide) hσ14 (j_aload_n rfl rfl (j_gfr rfl hx15 (j_iload_n rfl rfl (j_iload_n rfl rfl (j_ias rfl hσ16 (j_aload_n rfl rfl (j_gfr rfl hx17 (j_iload_n rfl rfl (j_iload_n rfl rfl (j_ias rfl hσ18 (j_aload_n rfl rfl (j_gfr rfl hx19 (j_iload_n rfl rfl (j_iconst (2 : Int32) rfl k32_2 (j_ias rfl hσ20 (j_iconst (1 : Int32) rfl k32_1 (j_iret rfl (q_zr (Or.inr rfl)) h))))))))))))))))))))))))))))
theorem t_Mo_sheet {fo : Option Nat} {d : Nat} (hd : 2 ≤ d) {v0 : Nat} {v1 : Int32} {v2 : Int32} {v3 : Int32} {σ σ1 : q_H} {r : Int32} (h : f_Mo_sheet v0 v1 v2 v3 σ = some (r, σ1)) : q_Rel (q_rf fo) q_Ms d 173 [.ref v0, .int v1, .int v2, .int v3] σ (.inl (some (.int r))) σ1 := by
  obtain ⟨d, rfl⟩ : ∃ d1, d = d1 + 1 := ⟨d - 1, by omega⟩
  exact q_Rel.of rfl rfl (b_Mo_sheet hd _ _ _ _ σ _ _ h ⟨rfl, rfl⟩)

def f_Mo_isSheet (v0 : Nat) (v1 : Int32) (σ : q_H) : Option ((Int32) × q_H) := q_sq (f_Mo_within v1 (0 : Int32) (23 : Int32) σ) fun x2 σ1 => if x2 = (0 : Int32) then (some ((0 : Int32), σ1)) else ((q_gr (q_gf σ1 12 v0 2)).bind fun x4 => (q_gi (q_ga σ1 22 x4 v1)).bind fun x5 => if x5 = (0 : Int32) then (some ((0 : Int32), σ1)) else (some ((1 : Int32), σ1)))
set_option maxRecDepth 100000 in
theorem b_Mo_isSheet {fo : Option Nat} {d : Nat} (hd : 2 ≤ d + 1) {o : q_O} {σ' : q_H} (v0 : Nat) (v1 : Int32) (σ : q_H) : q_J (fun (r : Int32) (σ1 : q_H) => o = .inl (some (.int r)) ∧ σ' = σ1) (f_Mo_isSheet v0 v1 σ) (q_G (q_rf fo) d m_Mo_isSheet o σ' 0 [some (.ref v0), some (.int v1)] [] σ) := by
  unfold f_Mo_isSheet
  refine J_cl fun x2 σ1 hσ1 => ?_
  refine q_J.step (fun g => j_iload_n rfl rfl (j_iconst (0 : Int32) rfl k32_0 (j_bipush (23 : Int32) rfl kb_23 (j_s1 [.int v1, .int (0 : Int32), .int (23 : Int32)] [] rfl rfl rfl rfl rfl (t_Mo_within (by omega) hσ1) (g))))) ?_
  refine J_ite (fun h3 => ?_) (fun h3 => ?_)
  · exact J_some (fun h => j_if_t rfl (cc_eq_t h3) (j_iconst (0 : Int32) rfl k32_0 (j_iret rfl (q_zr (Or.inl rfl)) h)))
  refine J_bind fun x4 hx4 => ?_
  refine J_bind fun x5 hx5 => ?_
  refine q_J.step (fun g => j_if_f rfl (cc_eq_f h3) (j_aload_n rfl rfl (j_gfr rfl hx4 (j_iload_n rfl rfl (j_bal rfl rfl hx5 (g)))))) ?_
  refine J_ite (fun h6 => ?_) (fun h6 => ?_)
  · exact J_some (fun h => j_if_t rfl (cc_eq_t h6) (j_iconst (0 : Int32) rfl k32_0 (j_iret rfl (q_zr (Or.inl rfl)) h)))
  exact J_some (fun h => j_if_f rfl (cc_eq_f h6) (j_iconst (1 : Int32) rfl k32_1 (j_goto rfl (j_iret rfl (q_zr (Or.inr rfl)) h))))
theorem t_Mo_isSheet {fo : Option Nat} {d : Nat} (hd : 2 ≤ d) {v0 : Nat} {v1 : Int32} {σ σ1 : q_H} {r : Int32} (h : f_Mo_isSheet v0 v1 σ = some (r, σ1)) : q_Rel (q_rf fo) q_Ms d 175 [.ref v0, .int v1] σ (.inl (some (.int r))) σ1 := by
  obtain ⟨d, rfl⟩ : ∃ d1, d = d1 + 1 := ⟨d - 1, by omega⟩
  exact q_Rel.of rfl rfl (b_Mo_isSheet hd _ _ σ _ _ h ⟨rfl, rfl⟩)

