/-! Methods of the class: functions on the small heap, and their walks: by program. -/
def f_Rs_bounds_L23 (v0 : Nat) (v1 : Int32) (v2 : Nat) : Nat → Int32 → Int32 → q_H → Option ((Int32) × q_H)
  | 0, _, _, _ => none
  | n + 1, v3, v4, σ => if v4 < (24 : Int32) then ((q_gr (q_gf σ 0 v0 3)).bind fun x8 => (q_ob σ 2 x8).bind fun w9 => q_sq (f_Sf_isUnread x8 v4 σ) fun x11 σ10 => if x11 = (0 : Int32) then (f_Rs_bounds_L23 v0 v1 v2 n v3 (v4 + (1 : Int32)) σ10) else ((q_gr (q_gf σ10 0 v0 3)).bind fun x13 => (q_gr (q_gf σ10 2 x13 3)).bind fun x14 => (q_gi (q_ga σ10 20 x14 v4)).bind fun x15 => f_Rs_bounds_L23 v0 v1 v2 n (v3 + x15) (v4 + (1 : Int32)) σ10)) else (some (v3, σ))
set_option maxRecDepth 100000 in
theorem l_Rs_bounds_L23 {fo : Option Nat} {d : Nat} (hd : 5 ≤ d + 1) {o : q_O} {σ' : q_H} {E : (Int32) → q_H → Prop} (v0 : Nat) (v1 : Int32) (v2 : Nat) (hX : ∀ (t : Int32) σ1, E (t) σ1 → q_G (q_rf fo) d m_Rs_bounds o σ' 61 [none, some (.int v1), some (.ref v2), some (.int t), none] [] σ1)  : ∀ (n : Nat) (v3 : Int32) (v4 : Int32) (σ : q_H), q_J E (f_Rs_bounds_L23 v0 v1 v2 n v3 v4 σ) (q_G (q_rf fo) d m_Rs_bounds o σ' 23 [some (.ref v0), some (.int v1), some (.ref v2), some (.int v3), some (.int v4)] [] σ)
  | 0, v3, v4, σ => J_none
  | n + 1, v3, v4, σ => by
    unfold f_Rs_bounds_L23
    refine q_J.step (fun g => j_iload rfl rfl (j_bipush (24 : Int32) rfl kb_24 (g))) ?_
    refine J_ite (fun h7 => ?_) (fun h7 => ?_)
    · refine J_bind fun x8 hx8 => ?_
      refine J_bind fun w9 hw9 => ?_
      refine J_cl fun x11 σ10 hσ10 => ?_
      refine q_J.step (fun g => j_icmp_f rfl (cc_ge_f h7) (j_aload_n rfl rfl (j_gfr rfl hx8 (j_iload rfl rfl (j_v1 [.ref x8, .int v4] [] rfl rfl rfl rfl rfl rfl hw9 (Or.inl rfl) (t_Sf_isUnread (by omega) hσ10) (g)))))) ?_
      refine J_ite (fun h12 => ?_) (fun h12 => ?_)
      · exact q_J.step (fun g => j_if_t rfl (cc_eq_t h12) (j_iinc [some (.ref v0), some (.int v1), some (.ref v2), some (.int v3), some (.int (v4 + (1 : Int32)))] (v4 + (1 : Int32)) rfl rfl (by rw [k32_1]) (Or.inr rfl) rfl (j_goto rfl (g)))) (l_Rs_bounds_L23 hd v0 v1 v2 hX n v3 (v4 + (1 : Int32)) σ10)
      refine J_bind fun x13 hx13 => ?_
      refine J_bind fun x14 hx14 => ?_
      refine J_bind fun x15 hx15 => ?_
      exact q_J.step (fun g => j_if_f rfl (cc_eq_f h12) (j_iload_n rfl rfl (j_aload_n rfl rfl (j_gfr rfl hx13 (j_gfr rfl hx14 (j_iload rfl rfl (j_ial rfl hx15 (j_iadd rfl (j_istore_n [some (.ref v0), some (.int v1), some (.ref v2), some (.int (v3 + x15)), some (.int v4)] rfl rfl (Or.inr rfl) rfl (j_iinc [some (.ref v0), some (.int v1), some (.ref v2), some (.int (v3 + x15)), some (.int (v4 + (1 : Int32)))] (v4 + (1 : Int32)) rfl rfl (by rw [k32_1]) (Or.inr rfl) rfl (j_goto rfl (g)))))))))))) (l_Rs_bounds_L23 hd v0 v1 v2 hX n (v3 + x15) (v4 + (1 : Int32)) σ10)
    exact J_some (fun h => j_icmp_t rfl (cc_ge_t h7) (j_weak (l := [none, some (.int v1), some (.ref v2), some (.int v3), none]) (And.intro (Or.inl rfl) (And.intro (Or.inr rfl) (And.intro (Or.inr rfl) (And.intro (Or.inr rfl) (And.intro (Or.inl rfl) True.intro))))) (hX _ _ h)))

def f_Rs_bounds (v0 : Nat) (v1 : Int32) (σ : q_H) : Option ((Int32) × q_H) := q_sq (f_Rs_isFrom (0 : Int32) v1 (3 : Int32) σ) fun x2 σ1 => if x2 = (0 : Int32) then (some ((-1 : Int32), σ1)) else ((q_ob σ1 0 v0).bind fun w4 => q_sq (f_Rs_gather v0 (0 : Int32) (0 : Int32) σ1) fun x6 σ5 => q_sq (f_Rs_bounds_L23 v0 v1 x6 q_FU (0 : Int32) (0 : Int32) σ5) fun (t16 : Int32) σ17 => (q_ob σ17 9 x6).bind fun w18 => q_sq (f_Ty_picked x6 (0 : Int32) (0 : Int32) σ17) fun x20 σ19 => q_sq (if v1 < (2 : Int32) then (some ((0 : Int32), σ19)) else (some (t16, σ19))) fun (t22 : Int32) σ23 => (q_ob σ23 9 x6).bind fun w24 => q_sq (f_Ty_all x6 (0 : Int32) σ23) fun x26 σ25 => q_sq (f_Ra_of ((x20 + t22).toInt64) ((x26 + t16).toInt64) σ25) fun x28 σ27 => q_sq (f_Rs_partOf x28 (v1 - v1 / (2 : Int32) * (2 : Int32)) σ27) fun x30 σ29 => some (x30, σ29))
set_option maxRecDepth 100000 in
theorem b_Rs_bounds {fo : Option Nat} {d : Nat} (hd : 5 ≤ d + 1) {o : q_O} {σ' : q_H} (v0 : Nat) (v1 : Int32) (σ : q_H) : q_J (fun (r : Int32) (σ1 : q_H) => o = .inl (some (.int r)) ∧ σ' = σ1) (f_Rs_bounds v0 v1 σ) (q_G (q_rf fo) d m_Rs_bounds o σ' 0 [some (.ref v0), some (.int v1), none, none, none] [] σ) := by
  unfold f_Rs_bounds
  refine J_cl fun x2 σ1 hσ1 => ?_
  refine q_J.step (fun g => j_iconst (0 : Int32) rfl k32_0 (j_iload_n rfl rfl (j_iconst (3 : Int32) rfl k32_3 (j_s1 [.int (0 : Int32), .int v1, .int (3 : Int32)] [] rfl rfl rfl rfl rfl (t_Rs_isFrom (by omega) hσ1) (g))))) ?_
  refine J_ite (fun h3 => ?_) (fun h3 => ?_)
  · exact J_some (fun h => j_if_f rfl (cc_ne_f h3) (j_iconst (-1 : Int32) rfl k32_m1 (j_iret rfl rfl h)))
  refine J_bind fun w4 hw4 => ?_
  refine J_cl fun x6 σ5 hσ5 => ?_
  refine J_sq (fun (t16 : Int32) (σ17 : q_H) => q_G (q_rf fo) d m_Rs_bounds o σ' 61 [none, some (.int v1), some (.ref x6), some (.int t16), none] [] σ17) (q_J.step (fun g => j_if_t rfl (cc_ne_t h3) (j_aload_n rfl rfl (j_iconst (0 : Int32) rfl k32_0 (j_iconst (0 : Int32) rfl k32_0 (j_v1 [.ref v0, .int (0 : Int32), .int (0 : Int32)] [] rfl rfl rfl rfl rfl rfl hw4 (Or.inl rfl) (t_Rs_gather (by omega) hσ5) (j_astore_n [some (.ref v0), some (.int v1), some (.ref x6), none, none] rfl rfl (Or.inr rfl) rfl (j_iconst (0 : Int32) rfl k32_0 (j_istore_n [some (.ref v0), some (.int v1), some (.ref x6), some (.int (0 : Int32)), none] rfl rfl (Or.inr rfl) rfl (j_iconst (0 : Int32) rfl k32_0 (j_istore [some (.ref v0), some (.int v1), some (.ref x6), some (.int (0 : Int32)), some (.int (0 : Int32))] rfl rfl (Or.inr rfl) rfl (g))))))))))) (l_Rs_bounds_L23 hd v0 v1 x6 (fun _ _ h => h) q_FU (0 : Int32) (0 : Int32) σ5)) (fun t16 σ17 => ?_)
  refine J_bind fun w18 hw18 => ?_
  refine J_cl fun x20 σ19 hσ19 => ?_
  refine q_J.step (fun g => j_aload_n rfl rfl (j_iconst (0 : Int32) rfl k32_0 (j_iconst (0 : Int32) rfl k32_0 (j_v1 [.ref x6, .int (0 : Int32), .int (0 : Int32)] [] rfl rfl rfl rfl rfl rfl hw18 (Or.inl rfl) (t_Ty_picked (by omega) hσ19) (j_iload_n rfl rfl (j_iconst (2 : Int32) rfl k32_2 (g))))))) ?_
  refine J_sq (fun (t22 : Int32) (σ23 : q_H) => q_G (q_rf fo) d m_Rs_bounds o σ' 77 [none, some (.int v1), some (.ref x6), some (.int t16), none] [.int t22, .int x20] σ23) ?_ (fun t22 σ23 => ?_)
  · refine J_ite (fun h21 => ?_) (fun h21 => ?_)
    · exact J_some (fun h => j_icmp_t rfl (cc_lt_t h21) (j_iconst (0 : Int32) rfl k32_0 (h)))
    exact J_some (fun h => j_icmp_f rfl (cc_lt_f h21) (j_iload_n rfl rfl (j_goto rfl (h))))
  refine J_bind fun w24 hw24 => ?_
  refine J_cl fun x26 σ25 hσ25 => ?_
  refine J_cl fun x28 σ27 hσ27 => ?_
  refine J_cl fun x30 σ29 hσ29 => ?_
  exact J_some (fun h => j_iadd rfl (j_istore [none, some (.int v1), some (.ref x6), some (.int t16), some (.int (x20 + t22))] rfl rfl (Or.inr rfl) rfl (j_iload rfl rfl (j_i2l rfl (j_aload_n rfl rfl (j_iconst (0 : Int32) rfl k32_0 (j_v1 [.ref x6, .int (0 : Int32)] [.long ((x20 + t22).toInt64)] rfl rfl rfl rfl rfl rfl hw24 (Or.inl rfl) (t_Ty_all (by omega) hσ25) (j_iload_n rfl rfl (j_iadd rfl (j_i2l rfl (j_s1 [.long ((x20 + t22).toInt64), .long ((x26 + t16).toInt64)] [] rfl rfl rfl rfl rfl (t_Ra_of (by omega) hσ27) (j_iload_n rfl rfl (j_iconst (2 : Int32) rfl k32_2 (j_irem rfl (by decide) (j_s1 [q_rf x28, .int (v1 - v1 / (2 : Int32) * (2 : Int32))] [] rfl rfl rfl rfl rfl (t_Rs_partOf (by omega) hσ29) (j_iret rfl rfl h))))))))))))))))
theorem t_Rs_bounds {fo : Option Nat} {d : Nat} (hd : 5 ≤ d) {v0 : Nat} {v1 : Int32} {σ σ1 : q_H} {r : Int32} (h : f_Rs_bounds v0 v1 σ = some (r, σ1)) : q_Rel (q_rf fo) q_Ms d 124 [.ref v0, .int v1] σ (.inl (some (.int r))) σ1 := by
  obtain ⟨d, rfl⟩ : ∃ d1, d = d1 + 1 := ⟨d - 1, by omega⟩
  exact q_Rel.of rfl rfl (b_Rs_bounds hd _ _ σ _ _ h ⟨rfl, rfl⟩)

def f_Rs_isSooner (v0 : Nat) (v1 : Int32) (v2 : Int32) (σ : q_H) : Option ((Int32) × q_H) := (q_gr (q_gf σ 0 v0 3)).bind fun x1 => (q_gr (q_gf σ 2 x1 3)).bind fun x2 => (q_gi (q_ga σ 20 x2 v1)).bind fun x3 => (q_gr (q_gf σ 0 v0 3)).bind fun x4 => (q_gr (q_gf σ 2 x4 3)).bind fun x5 => (q_gi (q_ga σ 20 x5 v2)).bind fun x6 => if x3 = x6 then ((q_gr (q_gf σ 0 v0 3)).bind fun x8 => (q_gr (q_gf σ 0 v0 3)).bind fun x9 => (q_gr (q_gf σ 2 x9 1)).bind fun x10 => (q_gi (q_ga σ 20 x10 v1)).bind fun x11 => (q_ob σ 2 x8).bind fun w12 => q_sq (f_Sf_marriagesOf x8 x11 σ) fun x14 σ13 => (q_gr (q_gf σ13 0 v0 3)).bind fun x15 => (q_gr (q_gf σ13 0 v0 3)).bind fun x16 => (q_gr (q_gf σ13 2 x16 1)).bind fun x17 => (q_gi (q_ga σ13 20 x17 v2)).bind fun x18 => (q_ob σ13 2 x15).bind fun w19 => q_sq (f_Sf_marriagesOf x15 x18 σ13) fun x21 σ20 => if x14 < x21 then (some ((1 : Int32), σ20)) else (some ((0 : Int32), σ20))) else ((q_gr (q_gf σ 0 v0 3)).bind fun x23 => (q_gr (q_gf σ 2 x23 3)).bind fun x24 => (q_gi (q_ga σ 20 x24 v1)).bind fun x25 => (q_gr (q_gf σ 0 v0 3)).bind fun x26 => (q_gr (q_gf σ 2 x26 3)).bind fun x27 => (q_gi (q_ga σ 20 x27 v2)).bind fun x28 => if x28 < x25 then (some ((1 : Int32), σ)) else (some ((0 : Int32), σ)))
set_option maxRecDepth 100000 in
theorem b_Rs_isSooner {fo : Option Nat} {d : Nat} (hd : 5 ≤ d + 1) {o : q_O} {σ' : q_H} (v0 : Nat) (v1 : Int32) (v2 : Int32) (σ : q_H) : q_J (fun (r : Int32) (σ1 : q_H) => o = .inl (some (.int r)) ∧ σ' = σ1) (f_Rs_isSooner v0 v1 v2 σ) (q_G (q_rf fo) d m_Rs_isSooner o σ' 0 [some (.ref v0), some (.int v1), some (.int v2)] [] σ) := by
  unfold f_Rs_isSooner
  refine J_bind fun x1 hx1 => ?_
  refine J_bind fun x2 hx2 => ?_
  refine J_bind fun x3 hx3 => ?_
  refine J_bind fun x4 hx4 => ?_
  refine J_bind fun x5 hx5 => ?_
  refine J_bind fun x6 hx6 => ?_
  refine q_J.step (fun g => j_aload_n rfl rfl (j_gfr rfl hx1 (j_gfr rfl hx2 (j_iload_n rfl rfl (j_ial rfl hx3 (j_aload_n rfl rfl (j_gfr rfl hx4 (j_gfr rfl hx5 (j_iload_n rfl rfl (j_ial rfl hx6 (g))))))))))) ?_
  refine J_ite (fun h7 => ?_) (fun h7 => ?_)
  · refine J_bind fun x8 hx8 => ?_
    refine J_bind fun x9 hx9 => ?_
    refine J_bind fun x10 hx10 => ?_
    refine J_bind fun x11 hx11 => ?_
    refine J_bind fun w12 hw12 => ?_
    refine J_cl fun x14 σ13 hσ13 => ?_
    refine J_bind fun x15 hx15 => ?_
    refine J_bind fun x16 hx16 => ?_
    refine J_bind fun x17 hx17 => ?_
    refine J_bind fun x18 hx18 => ?_
    refine J_bind fun w19 hw19 => ?_
    refine J_cl fun x21 σ20 hσ20 => ?_
    refine q_J.step (fun g => j_icmp_t rfl (cc_eq_t h7) (j_aload_n rfl rfl (j_gfr rfl hx8 (j_aload_n rfl rfl (j_gfr rfl hx9 (j_gfr rfl hx10 (j_iload_n rfl rfl (j_ial rfl hx11 (j_v1 [.ref x8, .int x11] [] rfl rfl rfl rfl rfl rfl hw12 (Or.inl rfl) (t_Sf_marriagesOf (by omega) hσ13) (j_aload_n rfl rfl (j_gfr rfl hx15 (j_aload_n rfl rfl (j_gfr rfl hx16 (j_gfr rfl hx17 (g))))))))))))))) ?_
    refine q_J.step (fun g => j_iload_n rfl rfl (j_ial rfl hx18 (j_v1 [.ref x15, .int x18] [.int x14] rfl rfl rfl rfl rfl rfl hw19 (Or.inl rfl) (t_Sf_marriagesOf (by omega) hσ20) (g)))) ?_
    refine J_ite (fun h22 => ?_) (fun h22 => ?_)
    · exact J_some (fun h => j_icmp_f rfl (cc_ge_f h22) (j_iconst (1 : Int32) rfl k32_1 (j_goto rfl (j_iret rfl (q_zr (Or.inr rfl)) h))))
    exact J_some (fun h => j_icmp_t rfl (cc_ge_t h22) (j_iconst (0 : Int32) rfl k32_0 (j_iret rfl (q_zr (Or.inl rfl)) h)))
  refine J_bind fun x23 hx23 => ?_
  refine J_bind fun x24 hx24 => ?_
  refine J_bind fun x25 hx25 => ?_
  refine J_bind fun x26 hx26 => ?_
  refine J_bind fun x27 hx27 => ?_
  refine J_bind fun x28 hx28 => ?_
  refine q_J.step (fun g => j_icmp_f rfl (cc_eq_f h7) (j_aload_n rfl rfl (j_gfr rfl hx23 (j_gfr rfl hx24 (j_iload_n rfl rfl (j_ial rfl hx25 (j_aload_n rfl rfl (j_gfr rfl hx26 (j_gfr rfl hx27 (j_iload_n rfl rfl (j_ial rfl hx28 (g)))))))))))) ?_
  refine J_ite (fun h29 => ?_) (fun h29 => ?_)
  · exact J_some (fun h => j_icmp_f rfl (cc_le_f h29) (j_iconst (1 : Int32) rfl k32_1 (j_goto rfl (j_iret rfl (q_zr (Or.inr rfl)) h))))
  exact J_some (fun h => j_icmp_t rfl (cc_le_t h29) (j_iconst (0 : Int32) rfl k32_0 (j_iret rfl (q_zr (Or.inl rfl)) h)))
theorem t_Rs_isSooner {fo : Option Nat} {d : Nat} (hd : 5 ≤ d) {v0 : Nat} {v1 : Int32} {v2 : Int32} {σ σ1 : q_H} {r : Int32} (h : f_Rs_isSooner v0 v1 v2 σ = some (r, σ1)) : q_Rel (q_rf fo) q_Ms d 126 [.ref v0, .int v1, .int v2] σ (.inl (some (.int r))) σ1 := by
  obtain ⟨d, rfl⟩ : ∃ d1, d = d1 + 1 := ⟨d - 1, by omega⟩
  exact q_Rel.of rfl rfl (b_Rs_isSooner hd _ _ _ σ _ _ h ⟨rfl, rfl⟩)

def f_Rs_one (v0 : Nat) (v1 : Int32) (v2 : Int32) (v3 : Int32) (σ : q_H) : Option ((Int32) × q_H) := (q_gr (q_gf σ 0 v0 3)).bind fun x1 => (q_ob σ 2 x1).bind fun w2 => q_sq (f_Sf_lineThatIsOne x1 v1 v2 v3 σ) fun x4 σ3 => some (x4, σ3)
set_option maxRecDepth 100000 in
theorem b_Rs_one {fo : Option Nat} {d : Nat} (hd : 5 ≤ d + 1) {o : q_O} {σ' : q_H} (v0 : Nat) (v1 : Int32) (v2 : Int32) (v3 : Int32) (σ : q_H) : q_J (fun (r : Int32) (σ1 : q_H) => o = .inl (some (.int r)) ∧ σ' = σ1) (f_Rs_one v0 v1 v2 v3 σ) (q_G (q_rf fo) d m_Rs_one o σ' 0 [some (.ref v0), some (.int v1), some (.int v2), some (.int v3)] [] σ) := by
  unfold f_Rs_one
  refine J_bind fun x1 hx1 => ?_
  refine J_bind fun w2 hw2 => ?_
  refine J_cl fun x4 σ3 hσ3 => ?_
  exact J_some (fun h => j_aload_n rfl rfl (j_gfr rfl hx1 (j_iload_n rfl rfl (j_iload_n rfl rfl (j_iload_n rfl rfl (j_v1 [.ref x1, .int v1, .int v2, .int v3] [] rfl rfl rfl rfl rfl rfl hw2 (Or.inl rfl) (t_Sf_lineThatIsOne (by omega) hσ3) (j_iret rfl rfl h)))))))
theorem t_Rs_one {fo : Option Nat} {d : Nat} (hd : 5 ≤ d) {v0 : Nat} {v1 : Int32} {v2 : Int32} {v3 : Int32} {σ σ1 : q_H} {r : Int32} (h : f_Rs_one v0 v1 v2 v3 σ = some (r, σ1)) : q_Rel (q_rf fo) q_Ms d 128 [.ref v0, .int v1, .int v2, .int v3] σ (.inl (some (.int r))) σ1 := by
  obtain ⟨d, rfl⟩ : ∃ d1, d = d1 + 1 := ⟨d - 1, by omega⟩
  exact q_Rel.of rfl rfl (b_Rs_one hd _ _ _ _ σ _ _ h ⟨rfl, rfl⟩)

def f_Rs_born (v0 : Nat) (v1 : Int32) (v2 : Int32) (σ : q_H) : Option ((Int32) × q_H) := (q_ob σ 0 v0).bind fun w1 => q_sq (f_Rs_gather v0 (0 : Int32) (0 : Int32) σ) fun x3 σ2 => q_sq (if v1 = (0 : Int32) then (some ((1 : Int32), σ2)) else (some ((2 : Int32), σ2))) fun (t5 : Int32) σ6 => (q_ob σ6 9 x3).bind fun w7 => q_sq (f_Ty_picked x3 (0 : Int32) t5 σ6) fun x9 σ8 => (q_ob σ8 9 x3).bind fun w10 => q_sq (f_Ty_all x3 t5 σ8) fun x12 σ11 => q_sq (f_Ra_of x9.toInt64 x12.toInt64 σ11) fun x14 σ13 => q_sq (f_Rs_partOf x14 v2 σ13) fun x16 σ15 => some (x16, σ15)
set_option maxRecDepth 100000 in
theorem b_Rs_born {fo : Option Nat} {d : Nat} (hd : 5 ≤ d + 1) {o : q_O} {σ' : q_H} (v0 : Nat) (v1 : Int32) (v2 : Int32) (σ : q_H) : q_J (fun (r : Int32) (σ1 : q_H) => o = .inl (some (.int r)) ∧ σ' = σ1) (f_Rs_born v0 v1 v2 σ) (q_G (q_rf fo) d m_Rs_born o σ' 0 [some (.ref v0), some (.int v1), some (.int v2), none, none] [] σ) := by
  unfold f_Rs_born
  refine J_bind fun w1 hw1 => ?_
  refine J_cl fun x3 σ2 hσ2 => ?_
  refine q_J.step (fun g => j_aload_n rfl rfl (j_iconst (0 : Int32) rfl k32_0 (j_iconst (0 : Int32) rfl k32_0 (j_v1 [.ref v0, .int (0 : Int32), .int (0 : Int32)] [] rfl rfl rfl rfl rfl rfl hw1 (Or.inl rfl) (t_Rs_gather (by omega) hσ2) (j_astore_n [some (.ref v0), some (.int v1), some (.int v2), some (.ref x3), none] rfl rfl (Or.inr rfl) rfl (j_iload_n rfl rfl (g))))))) ?_
  refine J_sq (fun (t5 : Int32) (σ6 : q_H) => q_G (q_rf fo) d m_Rs_born o σ' 16 [none, none, some (.int v2), some (.ref x3), none] [.int t5] σ6) ?_ (fun t5 σ6 => ?_)
  · refine J_ite (fun h4 => ?_) (fun h4 => ?_)
    · exact J_some (fun h => j_if_t rfl (cc_eq_t h4) (j_iconst (1 : Int32) rfl k32_1 (j_weak (l := [none, none, some (.int v2), some (.ref x3), none]) (And.intro (Or.inl rfl) (And.intro (Or.inl rfl) (And.intro (Or.inr rfl) (And.intro (Or.inr rfl) (And.intro (Or.inr rfl) True.intro))))) (h))))
    exact J_some (fun h => j_if_f rfl (cc_eq_f h4) (j_iconst (2 : Int32) rfl k32_2 (j_goto rfl (j_weak (l := [none, none, some (.int v2), some (.ref x3), none]) (And.intro (Or.inl rfl) (And.intro (Or.inl rfl) (And.intro (Or.inr rfl) (And.intro (Or.inr rfl) (And.intro (Or.inr rfl) True.intro))))) (h)))))
  refine J_bind fun w7 hw7 => ?_
  refine J_cl fun x9 σ8 hσ8 => ?_
  refine J_bind fun w10 hw10 => ?_
  refine J_cl fun x12 σ11 hσ11 => ?_
  refine J_cl fun x14 σ13 hσ13 => ?_
  refine J_cl fun x16 σ15 hσ15 => ?_
  exact J_some (fun h => j_istore [none, none, some (.int v2), some (.ref x3), some (.int t5)] rfl rfl (Or.inr rfl) rfl (j_aload_n rfl rfl (j_iconst (0 : Int32) rfl k32_0 (j_iload rfl rfl (j_v1 [.ref x3, .int (0 : Int32), .int t5] [] rfl rfl rfl rfl rfl rfl hw7 (Or.inl rfl) (t_Ty_picked (by omega) hσ8) (j_i2l rfl (j_aload_n rfl rfl (j_iload rfl rfl (j_v1 [.ref x3, .int t5] [.long x9.toInt64] rfl rfl rfl rfl rfl rfl hw10 (Or.inl rfl) (t_Ty_all (by omega) hσ11) (j_i2l rfl (j_s1 [.long x9.toInt64, .long x12.toInt64] [] rfl rfl rfl rfl rfl (t_Ra_of (by omega) hσ13) (j_iload_n rfl rfl (j_s1 [q_rf x14, .int v2] [] rfl rfl rfl rfl rfl (t_Rs_partOf (by omega) hσ15) (j_iret rfl rfl h))))))))))))))
theorem t_Rs_born {fo : Option Nat} {d : Nat} (hd : 5 ≤ d) {v0 : Nat} {v1 : Int32} {v2 : Int32} {σ σ1 : q_H} {r : Int32} (h : f_Rs_born v0 v1 v2 σ = some (r, σ1)) : q_Rel (q_rf fo) q_Ms d 143 [.ref v0, .int v1, .int v2] σ (.inl (some (.int r))) σ1 := by
  obtain ⟨d, rfl⟩ : ∃ d1, d = d1 + 1 := ⟨d - 1, by omega⟩
  exact q_Rel.of rfl rfl (b_Rs_born hd _ _ _ σ _ _ h ⟨rfl, rfl⟩)

def f_Rs_fails (v0 : Nat) (v1 : Int32) (σ : q_H) : Option ((Int32) × q_H) := q_sq (f_Rs_isFrom (0 : Int32) v1 (3 : Int32) σ) fun x2 σ1 => if x2 = (0 : Int32) then (some ((-1 : Int32), σ1)) else ((q_gr (q_gf σ1 0 v0 8)).bind fun x4 => (q_gr (q_ga σ1 27 x4 v1)).bind fun x5 => (q_ob σ1 0 v0).bind fun w6 => q_sq (f_Rs_countUnlet v0 none x5 σ1) fun x8 σ7 => some (x8, σ7))
set_option maxRecDepth 100000 in
theorem b_Rs_fails {fo : Option Nat} {d : Nat} (hd : 5 ≤ d + 1) {o : q_O} {σ' : q_H} (v0 : Nat) (v1 : Int32) (σ : q_H) : q_J (fun (r : Int32) (σ1 : q_H) => o = .inl (some (.int r)) ∧ σ' = σ1) (f_Rs_fails v0 v1 σ) (q_G (q_rf fo) d m_Rs_fails o σ' 0 [some (.ref v0), some (.int v1)] [] σ) := by
  unfold f_Rs_fails
  refine J_cl fun x2 σ1 hσ1 => ?_
  refine q_J.step (fun g => j_iconst (0 : Int32) rfl k32_0 (j_iload_n rfl rfl (j_iconst (3 : Int32) rfl k32_3 (j_s1 [.int (0 : Int32), .int v1, .int (3 : Int32)] [] rfl rfl rfl rfl rfl (t_Rs_isFrom (by omega) hσ1) (g))))) ?_
  refine J_ite (fun h3 => ?_) (fun h3 => ?_)
  · exact J_some (fun h => j_if_t rfl (cc_eq_t h3) (j_iconst (-1 : Int32) rfl k32_m1 (j_iret rfl rfl h)))
  refine J_bind fun x4 hx4 => ?_
  refine J_bind fun x5 hx5 => ?_
  refine J_bind fun w6 hw6 => ?_
  refine J_cl fun x8 σ7 hσ7 => ?_
  exact J_some (fun h => j_if_f rfl (cc_eq_f h3) (j_aload_n rfl rfl (j_null rfl (j_aload_n rfl rfl (j_gfr rfl hx4 (j_iload_n rfl rfl (j_aal rfl rfl hx5 (j_v1 [.ref v0, .null, .ref x5] [] rfl rfl rfl rfl rfl rfl hw6 (Or.inl rfl) (t_Rs_countUnlet (by omega) hσ7) (j_goto rfl (j_iret rfl rfl h))))))))))
theorem t_Rs_fails {fo : Option Nat} {d : Nat} (hd : 5 ≤ d) {v0 : Nat} {v1 : Int32} {σ σ1 : q_H} {r : Int32} (h : f_Rs_fails v0 v1 σ = some (r, σ1)) : q_Rel (q_rf fo) q_Ms d 147 [.ref v0, .int v1] σ (.inl (some (.int r))) σ1 := by
  obtain ⟨d, rfl⟩ : ∃ d1, d = d1 + 1 := ⟨d - 1, by omega⟩
  exact q_Rel.of rfl rfl (b_Rs_fails hd _ _ σ _ _ h ⟨rfl, rfl⟩)

def f_Rs_fittest_L16 (v0 : Nat) : Nat → Int32 → Int32 → Int32 → q_H → Option ((Int32) × q_H)
  | 0, _, _, _, _ => none
  | n + 1, v1, v2, v3, σ => if v3 < (4 : Int32) then ((q_gr (q_gf σ 0 v0 8)).bind fun x7 => (q_gr (q_ga σ 27 x7 v3)).bind fun x8 => (q_ob σ 0 v0).bind fun w9 => q_sq (f_Rs_countUnlet v0 none x8 σ) fun x11 σ10 => if x11 < v2 then (f_Rs_fittest_L16 v0 n v3 x11 (v3 + (1 : Int32)) σ10) else (f_Rs_fittest_L16 v0 n v1 v2 (v3 + (1 : Int32)) σ10)) else (some (v1, σ))
set_option maxRecDepth 100000 in
theorem l_Rs_fittest_L16 {fo : Option Nat} {d : Nat} (hd : 5 ≤ d + 1) {o : q_O} {σ' : q_H} {E : (Int32) → q_H → Prop} (v0 : Nat) (hX : ∀ (t : Int32) σ1, E (t) σ1 → q_G (q_rf fo) d m_Rs_fittest o σ' 51 [none, some (.int t), none, none, none] [] σ1)  : ∀ (n : Nat) (v1 : Int32) (v2 : Int32) (v3 : Int32) (σ : q_H), q_J E (f_Rs_fittest_L16 v0 n v1 v2 v3 σ) (q_G (q_rf fo) d m_Rs_fittest o σ' 16 [some (.ref v0), some (.int v1), some (.int v2), some (.int v3), none] [] σ)
  | 0, v1, v2, v3, σ => J_none
  | n + 1, v1, v2, v3, σ => by
    unfold f_Rs_fittest_L16
    refine q_J.step (fun g => j_iload_n rfl rfl (j_iconst (4 : Int32) rfl k32_4 (g))) ?_
    refine J_ite (fun h6 => ?_) (fun h6 => ?_)
    · refine J_bind fun x7 hx7 => ?_
      refine J_bind fun x8 hx8 => ?_
      refine J_bind fun w9 hw9 => ?_
      refine J_cl fun x11 σ10 hσ10 => ?_
      refine q_J.step (fun g => j_icmp_f rfl (cc_ge_f h6) (j_aload_n rfl rfl (j_null rfl (j_aload_n rfl rfl (j_gfr rfl hx7 (j_iload_n rfl rfl (j_aal rfl rfl hx8 (j_v1 [.ref v0, .null, .ref x8] [] rfl rfl rfl rfl rfl rfl hw9 (Or.inl rfl) (t_Rs_countUnlet (by omega) hσ10) (j_istore [some (.ref v0), some (.int v1), some (.int v2), some (.int v3), some (.int x11)] rfl rfl (Or.inr rfl) rfl (j_iload rfl rfl (j_iload_n rfl rfl (g)))))))))))) ?_
      refine J_ite (fun h12 => ?_) (fun h12 => ?_)
      · exact q_J.step (fun g => j_icmp_f rfl (cc_ge_f h12) (j_iload_n rfl rfl (j_istore_n [some (.ref v0), some (.int v3), some (.int v2), some (.int v3), some (.int x11)] rfl rfl (Or.inr rfl) rfl (j_iload rfl rfl (j_istore_n [some (.ref v0), some (.int v3), some (.int x11), some (.int v3), some (.int x11)] rfl rfl (Or.inr rfl) rfl (j_iinc [some (.ref v0), some (.int v3), some (.int x11), some (.int (v3 + (1 : Int32))), some (.int x11)] (v3 + (1 : Int32)) rfl rfl (by rw [k32_1]) (Or.inr rfl) rfl (j_goto rfl (j_weak (l := [some (.ref v0), some (.int v3), some (.int x11), some (.int (v3 + (1 : Int32))), none]) (And.intro (Or.inr rfl) (And.intro (Or.inr rfl) (And.intro (Or.inr rfl) (And.intro (Or.inr rfl) (And.intro (Or.inl rfl) True.intro))))) (g))))))))) (l_Rs_fittest_L16 hd v0 hX n v3 x11 (v3 + (1 : Int32)) σ10)
      exact q_J.step (fun g => j_icmp_t rfl (cc_ge_t h12) (j_iinc [some (.ref v0), some (.int v1), some (.int v2), some (.int (v3 + (1 : Int32))), some (.int x11)] (v3 + (1 : Int32)) rfl rfl (by rw [k32_1]) (Or.inr rfl) rfl (j_goto rfl (j_weak (l := [some (.ref v0), some (.int v1), some (.int v2), some (.int (v3 + (1 : Int32))), none]) (And.intro (Or.inr rfl) (And.intro (Or.inr rfl) (And.intro (Or.inr rfl) (And.intro (Or.inr rfl) (And.intro (Or.inl rfl) True.intro))))) (g))))) (l_Rs_fittest_L16 hd v0 hX n v1 v2 (v3 + (1 : Int32)) σ10)
    exact J_some (fun h => j_icmp_t rfl (cc_ge_t h6) (j_weak (l := [none, some (.int v1), none, none, none]) (And.intro (Or.inl rfl) (And.intro (Or.inr rfl) (And.intro (Or.inl rfl) (And.intro (Or.inl rfl) (And.intro (Or.inr rfl) True.intro))))) (hX _ _ h)))

def f_Rs_fittest (v0 : Nat) (σ : q_H) : Option ((Int32) × q_H) := (q_gr (q_gf σ 0 v0 8)).bind fun x1 => (q_gr (q_ga σ 27 x1 (0 : Int32))).bind fun x2 => (q_ob σ 0 v0).bind fun w3 => q_sq (f_Rs_countUnlet v0 none x2 σ) fun x5 σ4 => q_sq (f_Rs_fittest_L16 v0 q_FU (0 : Int32) x5 (1 : Int32) σ4) fun (t13 : Int32) σ14 => some (t13, σ14)
set_option maxRecDepth 100000 in
theorem b_Rs_fittest {fo : Option Nat} {d : Nat} (hd : 5 ≤ d + 1) {o : q_O} {σ' : q_H} (v0 : Nat) (σ : q_H) : q_J (fun (r : Int32) (σ1 : q_H) => o = .inl (some (.int r)) ∧ σ' = σ1) (f_Rs_fittest v0 σ) (q_G (q_rf fo) d m_Rs_fittest o σ' 0 [some (.ref v0), none, none, none, none] [] σ) := by
  unfold f_Rs_fittest
  refine J_bind fun x1 hx1 => ?_
  refine J_bind fun x2 hx2 => ?_
  refine J_bind fun w3 hw3 => ?_
  refine J_cl fun x5 σ4 hσ4 => ?_
  refine J_sq (fun (t13 : Int32) (σ14 : q_H) => q_G (q_rf fo) d m_Rs_fittest o σ' 51 [none, some (.int t13), none, none, none] [] σ14) (q_J.step (fun g => j_iconst (0 : Int32) rfl k32_0 (j_istore_n [some (.ref v0), some (.int (0 : Int32)), none, none, none] rfl rfl (Or.inr rfl) rfl (j_aload_n rfl rfl (j_null rfl (j_aload_n rfl rfl (j_gfr rfl hx1 (j_iconst (0 : Int32) rfl k32_0 (j_aal rfl rfl hx2 (j_v1 [.ref v0, .null, .ref x2] [] rfl rfl rfl rfl rfl rfl hw3 (Or.inl rfl) (t_Rs_countUnlet (by omega) hσ4) (j_istore_n [some (.ref v0), some (.int (0 : Int32)), some (.int x5), none, none] rfl rfl (Or.inr rfl) rfl (j_iconst (1 : Int32) rfl k32_1 (j_istore_n [some (.ref v0), some (.int (0 : Int32)), some (.int x5), some (.int (1 : Int32)), none] rfl rfl (Or.inr rfl) rfl (g))))))))))))) (l_Rs_fittest_L16 hd v0 (fun _ _ h => h) q_FU (0 : Int32) x5 (1 : Int32) σ4)) (fun t13 σ14 => ?_)
  exact J_some (fun h => j_iload_n rfl rfl (j_iret rfl rfl h))
theorem t_Rs_fittest {fo : Option Nat} {d : Nat} (hd : 5 ≤ d) {v0 : Nat} {σ σ1 : q_H} {r : Int32} (h : f_Rs_fittest v0 σ = some (r, σ1)) : q_Rel (q_rf fo) q_Ms d 149 [.ref v0] σ (.inl (some (.int r))) σ1 := by
  obtain ⟨d, rfl⟩ : ∃ d1, d = d1 + 1 := ⟨d - 1, by omega⟩
  exact q_Rel.of rfl rfl (b_Rs_fittest hd _ σ _ _ h ⟨rfl, rfl⟩)

def f_Rs_apart (v0 : Nat) (v1 : Int32) (v2 : Int32) (σ : q_H) : Option ((Int32) × q_H) := q_sq (f_Rs_isFrom (0 : Int32) v1 (3 : Int32) σ) fun x2 σ1 => if x2 = (0 : Int32) then (some ((-1 : Int32), σ1)) else (q_sq (f_Rs_isFrom (0 : Int32) v2 (3 : Int32) σ1) fun x5 σ4 => if x5 = (0 : Int32) then (some ((-1 : Int32), σ4)) else ((q_gr (q_gf σ4 0 v0 8)).bind fun x7 => (q_gr (q_ga σ4 27 x7 v1)).bind fun x8 => (q_gr (q_gf σ4 0 v0 8)).bind fun x9 => (q_gr (q_ga σ4 27 x9 v2)).bind fun x10 => (q_ob σ4 0 v0).bind fun w11 => q_sq (f_Rs_countUnlet v0 (some x8) x10 σ4) fun x13 σ12 => some (x13, σ12)))
set_option maxRecDepth 100000 in
theorem b_Rs_apart {fo : Option Nat} {d : Nat} (hd : 5 ≤ d + 1) {o : q_O} {σ' : q_H} (v0 : Nat) (v1 : Int32) (v2 : Int32) (σ : q_H) : q_J (fun (r : Int32) (σ1 : q_H) => o = .inl (some (.int r)) ∧ σ' = σ1) (f_Rs_apart v0 v1 v2 σ) (q_G (q_rf fo) d m_Rs_apart o σ' 0 [some (.ref v0), some (.int v1), some (.int v2)] [] σ) := by
  unfold f_Rs_apart
  refine J_cl fun x2 σ1 hσ1 => ?_
  refine q_J.step (fun g => j_iconst (0 : Int32) rfl k32_0 (j_iload_n rfl rfl (j_iconst (3 : Int32) rfl k32_3 (j_s1 [.int (0 : Int32), .int v1, .int (3 : Int32)] [] rfl rfl rfl rfl rfl (t_Rs_isFrom (by omega) hσ1) (g))))) ?_
  refine J_ite (fun h3 => ?_) (fun h3 => ?_)
  · exact J_some (fun h => j_if_t rfl (cc_eq_t h3) (j_iconst (-1 : Int32) rfl k32_m1 (j_iret rfl rfl h)))
  refine J_cl fun x5 σ4 hσ4 => ?_
  refine q_J.step (fun g => j_if_f rfl (cc_eq_f h3) (j_iconst (0 : Int32) rfl k32_0 (j_iload_n rfl rfl (j_iconst (3 : Int32) rfl k32_3 (j_s1 [.int (0 : Int32), .int v2, .int (3 : Int32)] [] rfl rfl rfl rfl rfl (t_Rs_isFrom (by omega) hσ4) (g)))))) ?_
  refine J_ite (fun h6 => ?_) (fun h6 => ?_)
  · exact J_some (fun h => j_if_f rfl (cc_ne_f h6) (j_iconst (-1 : Int32) rfl k32_m1 (j_iret rfl rfl h)))
  refine J_bind fun x7 hx7 => ?_
  refine J_bind fun x8 hx8 => ?_
  refine J_bind fun x9 hx9 => ?_
  refine J_bind fun x10 hx10 => ?_
  refine J_bind fun w11 hw11 => ?_
  refine J_cl fun x13 σ12 hσ12 => ?_
  exact J_some (fun h => j_if_t rfl (cc_ne_t h6) (j_aload_n rfl rfl (j_aload_n rfl rfl (j_gfr rfl hx7 (j_iload_n rfl rfl (j_aal rfl rfl hx8 (j_aload_n rfl rfl (j_gfr rfl hx9 (j_iload_n rfl rfl (j_aal rfl rfl hx10 (j_v1 [.ref v0, .ref x8, .ref x10] [] rfl rfl rfl rfl rfl rfl hw11 (Or.inl rfl) (t_Rs_countUnlet (by omega) hσ12) (j_iret rfl rfl h))))))))))))
theorem t_Rs_apart {fo : Option Nat} {d : Nat} (hd : 5 ≤ d) {v0 : Nat} {v1 : Int32} {v2 : Int32} {σ σ1 : q_H} {r : Int32} (h : f_Rs_apart v0 v1 v2 σ = some (r, σ1)) : q_Rel (q_rf fo) q_Ms d 150 [.ref v0, .int v1, .int v2] σ (.inl (some (.int r))) σ1 := by
  obtain ⟨d, rfl⟩ : ∃ d1, d = d1 + 1 := ⟨d - 1, by omega⟩
  exact q_Rel.of rfl rfl (b_Rs_apart hd _ _ _ σ _ _ h ⟨rfl, rfl⟩)

def f_Rs_rates_L60 (v0 : Nat) (v1 : Int32) (v2 : Int32) (v3 : Int32) (v4 : Int32) (v5 : Int32) (v7 : Int32) (v8 : Int32) : Nat → Int32 → Int32 → q_H → Option ((Int32) × q_H)
  | 0, _, _, _ => none
  | n + 1, v9, v10, σ => if v10 < v1 then ((q_gr (q_gf σ 0 v0 10)).bind fun x18 => (q_gr (q_gf σ 0 v0 7)).bind fun x19 => (q_ob σ 5 x18).bind fun w20 => q_sq (f_Wo_make x18 v10 v2 x19 v3 v4 v5 σ) fun (_ : Unit) σ21 => (q_gr (q_gf σ21 0 v0 10)).bind fun x23 => (q_gi (q_gf σ21 5 x23 1)).bind fun x24 => (q_gr (q_gf σ21 0 v0 10)).bind fun x25 => (q_gi (q_gf σ21 5 x25 0)).bind fun x26 => if (x24 * v7) < (v8 * x26) then (f_Rs_rates_L60 v0 v1 v2 v3 v4 v5 v7 v8 n (v9 + (0 : Int32)) (v10 + (1 : Int32)) σ21) else (f_Rs_rates_L60 v0 v1 v2 v3 v4 v5 v7 v8 n (v9 + (1 : Int32)) (v10 + (1 : Int32)) σ21)) else (some (v9, σ))
set_option maxRecDepth 100000 in
theorem l_Rs_rates_L60 {fo : Option Nat} {d : Nat} (hd : 5 ≤ d + 1) {o : q_O} {σ' : q_H} {E : (Int32) → q_H → Prop} (v0 : Nat) (v1 : Int32) (v2 : Int32) (v3 : Int32) (v4 : Int32) (v5 : Int32) (v7 : Int32) (v8 : Int32) (hX : ∀ (t : Int32) σ1, E (t) σ1 → q_G (q_rf fo) d m_Rs_rates o σ' 124 [none, none, none, none, none, none, none, none, none, some (.int t), none] [] σ1)  : ∀ (n : Nat) (v9 : Int32) (v10 : Int32) (σ : q_H), q_J E (f_Rs_rates_L60 v0 v1 v2 v3 v4 v5 v7 v8 n v9 v10 σ) (q_G (q_rf fo) d m_Rs_rates o σ' 60 [some (.ref v0), some (.int v1), some (.int v2), some (.int v3), some (.int v4), some (.int v5), none, some (.int v7), some (.int v8), some (.int v9), some (.int v10)] [] σ)
  | 0, v9, v10, σ => J_none
  | n + 1, v9, v10, σ => by
    unfold f_Rs_rates_L60
    refine q_J.step (fun g => j_iload rfl rfl (j_iload_n rfl rfl (g))) ?_
    refine J_ite (fun h17 => ?_) (fun h17 => ?_)
    · refine J_bind fun x18 hx18 => ?_
      refine J_bind fun x19 hx19 => ?_
      refine J_bind fun w20 hw20 => ?_
      refine J_cl fun _ σ21 hσ21 => ?_
      refine J_bind fun x23 hx23 => ?_
      refine J_bind fun x24 hx24 => ?_
      refine J_bind fun x25 hx25 => ?_
      refine J_bind fun x26 hx26 => ?_
      refine q_J.step (fun g => j_icmp_f rfl (cc_ge_f h17) (j_aload_n rfl rfl (j_gfr rfl hx18 (j_iload rfl rfl (j_iload_n rfl rfl (j_aload_n rfl rfl (j_gfr rfl hx19 (j_iload_n rfl rfl (j_iload rfl rfl (j_iload rfl rfl (j_v0 [.ref x18, .int v10, .int v2, .ref x19, .int v3, .int v4, .int v5] [] rfl rfl rfl rfl rfl rfl hw20 (Or.inl rfl) (t_Wo_make (by omega) hσ21) (j_iload rfl rfl (j_aload_n rfl rfl (j_gfr rfl hx23 (g))))))))))))))) ?_
      refine q_J.step (fun g => j_gfi rfl hx24 (j_iload rfl rfl (j_imul rfl (j_iload rfl rfl (j_aload_n rfl rfl (j_gfr rfl hx25 (j_gfi rfl hx26 (j_imul rfl (g))))))))) ?_
      refine J_ite (fun h27 => ?_) (fun h27 => ?_)
      · exact q_J.step (fun g => j_icmp_t rfl (cc_lt_t h27) (j_iconst (0 : Int32) rfl k32_0 (j_iadd rfl (j_istore [some (.ref v0), some (.int v1), some (.int v2), some (.int v3), some (.int v4), some (.int v5), none, some (.int v7), some (.int v8), some (.int (v9 + (0 : Int32))), some (.int v10)] rfl rfl (Or.inr rfl) rfl (j_iinc [some (.ref v0), some (.int v1), some (.int v2), some (.int v3), some (.int v4), some (.int v5), none, some (.int v7), some (.int v8), some (.int (v9 + (0 : Int32))), some (.int (v10 + (1 : Int32)))] (v10 + (1 : Int32)) rfl rfl (by rw [k32_1]) (Or.inr rfl) rfl (j_goto rfl (g))))))) (l_Rs_rates_L60 hd v0 v1 v2 v3 v4 v5 v7 v8 hX n (v9 + (0 : Int32)) (v10 + (1 : Int32)) σ21)
      exact q_J.step (fun g => j_icmp_f rfl (cc_lt_f h27) (j_iconst (1 : Int32) rfl k32_1 (j_goto rfl (j_iadd rfl (j_istore [some (.ref v0), some (.int v1), some (.int v2), some (.int v3), some (.int v4), some (.int v5), none, some (.int v7), some (.int v8), some (.int (v9 + (1 : Int32))), some (.int v10)] rfl rfl (Or.inr rfl) rfl (j_iinc [some (.ref v0), some (.int v1), some (.int v2), some (.int v3), some (.int v4), some (.int v5), none, some (.int v7), some (.int v8), some (.int (v9 + (1 : Int32))), some (.int (v10 + (1 : Int32)))] (v10 + (1 : Int32)) rfl rfl (by rw [k32_1]) (Or.inr rfl) rfl (j_goto rfl (g)))))))) (l_Rs_rates_L60 hd v0 v1 v2 v3 v4 v5 v7 v8 hX n (v9 + (1 : Int32)) (v10 + (1 : Int32)) σ21)
    exact J_some (fun h => j_icmp_t rfl (cc_ge_t h17) (j_weak (l := [none, none, none, none, none, none, none, none, none, some (.int v9), none]) (And.intro (Or.inl rfl) (And.intro (Or.inl rfl) (And.intro (Or.inl rfl) (And.intro (Or.inl rfl) (And.intro (Or.inl rfl) (And.intro (Or.inl rfl) (And.intro (Or.inr rfl) (And.intro (Or.inl rfl) (And.intro (Or.inl rfl) (And.intro (Or.inr rfl) (And.intro (Or.inl rfl) True.intro))))))))))) (hX _ _ h)))

def f_Rs_rates (v0 : Nat) (v1 : Int32) (v2 : Int32) (v3 : Int32) (v4 : Int32) (v5 : Int32) (σ : q_H) : Option ((Int32) × q_H) := (q_ob σ 0 v0).bind fun w1 => q_sq (f_Rs_gather v0 (0 : Int32) (0 : Int32) σ) fun x3 σ2 => (q_ob σ2 9 x3).bind fun w4 => q_sq (f_Ty_all x3 (0 : Int32) σ2) fun x6 σ5 => q_sq (f_Rs_isFrom (1 : Int32) v1 (20 : Int32) σ5) fun x8 σ7 => if x8 = (0 : Int32) then (some ((-1 : Int32), σ7)) else (q_sq (f_Rs_isWorld v2 v3 v4 v5 σ7) fun x11 σ10 => if x11 = (0 : Int32) then (some ((-1 : Int32), σ10)) else (if x6 = (0 : Int32) then (some ((-1 : Int32), σ10)) else ((q_ob σ10 9 x3).bind fun w14 => q_sq (f_Ty_picked x3 (0 : Int32) (0 : Int32) σ10) fun x16 σ15 => q_sq (f_Rs_rates_L60 v0 v1 v2 v3 v4 v5 x6 x16 q_FU (0 : Int32) (0 : Int32) σ15) fun (t28 : Int32) σ29 => some (t28, σ29))))
set_option maxRecDepth 100000 in
theorem b_Rs_rates {fo : Option Nat} {d : Nat} (hd : 5 ≤ d + 1) {o : q_O} {σ' : q_H} (v0 : Nat) (v1 : Int32) (v2 : Int32) (v3 : Int32) (v4 : Int32) (v5 : Int32) (σ : q_H) : q_J (fun (r : Int32) (σ1 : q_H) => o = .inl (some (.int r)) ∧ σ' = σ1) (f_Rs_rates v0 v1 v2 v3 v4 v5 σ) (q_G (q_rf fo) d m_Rs_rates o σ' 0 [some (.ref v0), some (.int v1), some (.int v2), some (.int v3), some (.int v4), some (.int v5), none, none, none, none, none] [] σ) := by
  unfold f_Rs_rates
  refine J_bind fun w1 hw1 => ?_
  refine J_cl fun x3 σ2 hσ2 => ?_
  refine J_bind fun w4 hw4 => ?_
  refine J_cl fun x6 σ5 hσ5 => ?_
  refine J_cl fun x8 σ7 hσ7 => ?_
  refine q_J.step (fun g => j_aload_n rfl rfl (j_iconst (0 : Int32) rfl k32_0 (j_iconst (0 : Int32) rfl k32_0 (j_v1 [.ref v0, .int (0 : Int32), .int (0 : Int32)] [] rfl rfl rfl rfl rfl rfl hw1 (Or.inl rfl) (t_Rs_gather (by omega) hσ2) (j_astore [some (.ref v0), some (.int v1), some (.int v2), some (.int v3), some (.int v4), some (.int v5), some (.ref x3), none, none, none, none] rfl rfl (Or.inr rfl) rfl (j_aload rfl rfl (j_iconst (0 : Int32) rfl k32_0 (j_v1 [.ref x3, .int (0 : Int32)] [] rfl rfl rfl rfl rfl rfl hw4 (Or.inl rfl) (t_Ty_all (by omega) hσ5) (j_istore [some (.ref v0), some (.int v1), some (.int v2), some (.int v3), some (.int v4), some (.int v5), some (.ref x3), some (.int x6), none, none, none] rfl rfl (Or.inr rfl) rfl (j_iconst (1 : Int32) rfl k32_1 (j_iload_n rfl rfl (j_bipush (20 : Int32) rfl kb_20 (j_s1 [.int (1 : Int32), .int v1, .int (20 : Int32)] [] rfl rfl rfl rfl rfl (t_Rs_isFrom (by omega) hσ7) (g)))))))))))))) ?_
  refine J_ite (fun h9 => ?_) (fun h9 => ?_)
  · exact J_some (fun h => j_if_t rfl (cc_eq_t h9) (j_iconst (-1 : Int32) rfl k32_m1 (j_iret rfl rfl h)))
  refine J_cl fun x11 σ10 hσ10 => ?_
  refine q_J.step (fun g => j_if_f rfl (cc_eq_f h9) (j_iload_n rfl rfl (j_iload_n rfl rfl (j_iload rfl rfl (j_iload rfl rfl (j_s1 [.int v2, .int v3, .int v4, .int v5] [] rfl rfl rfl rfl rfl (t_Rs_isWorld (by omega) hσ10) (g))))))) ?_
  refine J_ite (fun h12 => ?_) (fun h12 => ?_)
  · exact J_some (fun h => j_if_t rfl (cc_eq_t h12) (j_iconst (-1 : Int32) rfl k32_m1 (j_iret rfl rfl h)))
  refine q_J.step (fun g => j_if_f rfl (cc_eq_f h12) (j_iload rfl rfl (g))) ?_
  refine J_ite (fun h13 => ?_) (fun h13 => ?_)
  · exact J_some (fun h => j_if_f rfl (cc_ne_f h13) (j_iconst (-1 : Int32) rfl k32_m1 (j_iret rfl rfl h)))
  refine J_bind fun w14 hw14 => ?_
  refine J_cl fun x16 σ15 hσ15 => ?_
  refine J_sq (fun (t28 : Int32) (σ29 : q_H) => q_G (q_rf fo) d m_Rs_rates o σ' 124 [none, none, none, none, none, none, none, none, none, some (.int t28), none] [] σ29) (q_J.step (fun g => j_if_t rfl (cc_ne_t h13) (j_aload rfl rfl (j_iconst (0 : Int32) rfl k32_0 (j_iconst (0 : Int32) rfl k32_0 (j_v1 [.ref x3, .int (0 : Int32), .int (0 : Int32)] [] rfl rfl rfl rfl rfl rfl hw14 (Or.inl rfl) (t_Ty_picked (by omega) hσ15) (j_istore [some (.ref v0), some (.int v1), some (.int v2), some (.int v3), some (.int v4), some (.int v5), some (.ref x3), some (.int x6), some (.int x16), none, none] rfl rfl (Or.inr rfl) rfl (j_iconst (0 : Int32) rfl k32_0 (j_istore [some (.ref v0), some (.int v1), some (.int v2), some (.int v3), some (.int v4), some (.int v5), some (.ref x3), some (.int x6), some (.int x16), some (.int (0 : Int32)), none] rfl rfl (Or.inr rfl) rfl (j_iconst (0 : Int32) rfl k32_0 (j_istore [some (.ref v0), some (.int v1), some (.int v2), some (.int v3), some (.int v4), some (.int v5), some (.ref x3), some (.int x6), some (.int x16), some (.int (0 : Int32)), some (.int (0 : Int32))] rfl rfl (Or.inr rfl) rfl (j_weak (l := [some (.ref v0), some (.int v1), some (.int v2), some (.int v3), some (.int v4), some (.int v5), none, some (.int x6), some (.int x16), some (.int (0 : Int32)), some (.int (0 : Int32))]) (And.intro (Or.inr rfl) (And.intro (Or.inr rfl) (And.intro (Or.inr rfl) (And.intro (Or.inr rfl) (And.intro (Or.inr rfl) (And.intro (Or.inr rfl) (And.intro (Or.inl rfl) (And.intro (Or.inr rfl) (And.intro (Or.inr rfl) (And.intro (Or.inr rfl) (And.intro (Or.inr rfl) True.intro))))))))))) (g)))))))))))) (l_Rs_rates_L60 hd v0 v1 v2 v3 v4 v5 x6 x16 (fun _ _ h => h) q_FU (0 : Int32) (0 : Int32) σ15)) (fun t28 σ29 => ?_)
  exact J_some (fun h => j_iload rfl rfl (j_iret rfl rfl h))
theorem t_Rs_rates {fo : Option Nat} {d : Nat} (hd : 5 ≤ d) {v0 : Nat} {v1 : Int32} {v2 : Int32} {v3 : Int32} {v4 : Int32} {v5 : Int32} {σ σ1 : q_H} {r : Int32} (h : f_Rs_rates v0 v1 v2 v3 v4 v5 σ = some (r, σ1)) : q_Rel (q_rf fo) q_Ms d 153 [.ref v0, .int v1, .int v2, .int v3, .int v4, .int v5] σ (.inl (some (.int r))) σ1 := by
  obtain ⟨d, rfl⟩ : ∃ d1, d = d1 + 1 := ⟨d - 1, by omega⟩
  exact q_Rel.of rfl rfl (b_Rs_rates hd _ _ _ _ _ _ σ _ _ h ⟨rfl, rfl⟩)

def f_Rs_findReadings_L55 (v0 : Nat) (v1 : Nat) (v3 : Int32) (v4 : Int32) (v5 : Int32) (v6 : Int32) : Nat → Int32 → Int32 → q_H → Option ((Int32) × q_H)
  | 0, _, _, _ => none
  | n + 1, v2, v7, σ => if v7 < (24 : Int32) then ((q_gr (q_gf σ 0 v0 3)).bind fun x16 => (q_ob σ 2 x16).bind fun w17 => q_sq (f_Sf_pageOf x16 v7 σ) fun x19 σ18 => match x19 with | none => (f_Rs_findReadings_L55 v0 v1 v3 v4 v5 v6 n v2 (v7 + (1 : Int32)) σ18) | some a20 => ((q_gr (q_gf σ18 8 a20 11)).bind fun x21 => (q_ob σ18 9 x21).bind fun w22 => q_sq (f_Ty_picked x21 v3 v4 σ18) fun x24 σ23 => (q_gr (q_gf σ23 8 a20 11)).bind fun x25 => (q_ob σ23 9 x25).bind fun w26 => q_sq (f_Ty_all x25 v4 σ23) fun x28 σ27 => (q_ob σ27 0 v0).bind fun w29 => q_sq (f_Rs_addReading v0 v2 (v5 - x24) (v6 - x28) σ27) fun x31 σ30 => f_Rs_findReadings_L55 v0 v1 v3 v4 v5 v6 n x31 (v7 + (1 : Int32)) σ30)) else (some (v2, σ))
set_option maxRecDepth 100000 in
theorem l_Rs_findReadings_L55 {fo : Option Nat} {d : Nat} (hd : 5 ≤ d + 1) {o : q_O} {σ' : q_H} {E : (Int32) → q_H → Prop} (v0 : Nat) (v1 : Nat) (v3 : Int32) (v4 : Int32) (v5 : Int32) (v6 : Int32) (hX : ∀ (t : Int32) σ1, E (t) σ1 → q_G (q_rf fo) d m_Rs_findReadings o σ' 117 [some (.ref v0), some (.ref v1), some (.int t), some (.int v3), some (.int v4), none, none, none, none] [] σ1)  : ∀ (n : Nat) (v2 : Int32) (v7 : Int32) (σ : q_H), q_J E (f_Rs_findReadings_L55 v0 v1 v3 v4 v5 v6 n v2 v7 σ) (q_G (q_rf fo) d m_Rs_findReadings o σ' 55 [some (.ref v0), some (.ref v1), some (.int v2), some (.int v3), some (.int v4), some (.int v5), some (.int v6), some (.int v7), none] [] σ)
  | 0, v2, v7, σ => J_none
  | n + 1, v2, v7, σ => by
    unfold f_Rs_findReadings_L55
    refine q_J.step (fun g => j_iload rfl rfl (j_bipush (24 : Int32) rfl kb_24 (g))) ?_
    refine J_ite (fun h15 => ?_) (fun h15 => ?_)
    · refine J_bind fun x16 hx16 => ?_
      refine J_bind fun w17 hw17 => ?_
      refine J_cl fun x19 σ18 hσ18 => ?_
      refine q_J.step (fun g => j_icmp_f rfl (cc_ge_f h15) (j_aload_n rfl rfl (j_gfr rfl hx16 (j_iload rfl rfl (j_v1 [.ref x16, .int v7] [] rfl rfl rfl rfl rfl rfl hw17 (Or.inl rfl) (t_Sf_pageOf (by omega) hσ18) (j_astoreO (x := x19) [some (.ref v0), some (.ref v1), some (.int v2), some (.int v3), some (.int v4), some (.int v5), some (.int v6), some (.int v7), some (q_rf x19)] rfl rfl (Or.inr rfl) rfl (j_aloadO (x := x19) rfl rfl (g)))))))) ?_
      cases ha20 : x19 with
      | none =>
        try subst ha20
        exact q_J.step (fun g => j_nul_t rfl (j_iinc [some (.ref v0), some (.ref v1), some (.int v2), some (.int v3), some (.int v4), some (.int v5), some (.int v6), some (.int (v7 + (1 : Int32))), some (.null)] (v7 + (1 : Int32)) rfl rfl (by rw [k32_1]) (Or.inr rfl) rfl (j_goto rfl (j_weak (l := [some (.ref v0), some (.ref v1), some (.int v2), some (.int v3), some (.int v4), some (.int v5), some (.int v6), some (.int (v7 + (1 : Int32))), none]) (And.intro (Or.inr rfl) (And.intro (Or.inr rfl) (And.intro (Or.inr rfl) (And.intro (Or.inr rfl) (And.intro (Or.inr rfl) (And.intro (Or.inr rfl) (And.intro (Or.inr rfl) (And.intro (Or.inr rfl) (And.intro (Or.inl rfl) True.intro))))))))) (g))))) (l_Rs_findReadings_L55 hd v0 v1 v3 v4 v5 v6 hX n v2 (v7 + (1 : Int32)) σ18)
      | some a20 =>
        try subst ha20
        refine J_bind fun x21 hx21 => ?_
        refine J_bind fun w22 hw22 => ?_
        refine J_cl fun x24 σ23 hσ23 => ?_
        refine J_bind fun x25 hx25 => ?_
        refine J_bind fun w26 hw26 => ?_
        refine J_cl fun x28 σ27 hσ27 => ?_
        refine J_bind fun w29 hw29 => ?_
        refine J_cl fun x31 σ30 hσ30 => ?_
        exact q_J.step (fun g => j_nul_f rfl (j_aload_n rfl rfl (j_iload_n rfl rfl (j_iload rfl rfl (j_aload rfl rfl (j_gfr rfl hx21 (j_iload_n rfl rfl (j_iload rfl rfl (j_v1 [.ref x21, .int v3, .int v4] [.int v5, .int v2, .ref v0] rfl rfl rfl rfl rfl rfl hw22 (Or.inl rfl) (t_Ty_picked (by omega) hσ23) (j_isub rfl (j_iload rfl rfl (j_aload rfl rfl (j_gfr rfl hx25 (j_iload rfl rfl (j_v1 [.ref x25, .int v4] [.int v6, .int (v5 - x24), .int v2, .ref v0] rfl rfl rfl rfl rfl rfl hw26 (Or.inl rfl) (t_Ty_all (by omega) hσ27) (j_isub rfl (j_v1 [.ref v0, .int v2, .int (v5 - x24), .int (v6 - x28)] [] rfl rfl rfl rfl rfl rfl hw29 (Or.inl rfl) (t_Rs_addReading (by omega) hσ30) (j_istore_n [some (.ref v0), some (.ref v1), some (.int x31), some (.int v3), some (.int v4), some (.int v5), some (.int v6), some (.int v7), some (.ref a20)] rfl rfl (Or.inr rfl) rfl (j_iinc [some (.ref v0), some (.ref v1), some (.int x31), some (.int v3), some (.int v4), some (.int v5), some (.int v6), some (.int (v7 + (1 : Int32))), some (.ref a20)] (v7 + (1 : Int32)) rfl rfl (by rw [k32_1]) (Or.inr rfl) rfl (j_goto rfl (j_weak (l := [some (.ref v0), some (.ref v1), some (.int x31), some (.int v3), some (.int v4), some (.int v5), some (.int v6), some (.int (v7 + (1 : Int32))), none]) (And.intro (Or.inr rfl) (And.intro (Or.inr rfl) (And.intro (Or.inr rfl) (And.intro (Or.inr rfl) (And.intro (Or.inr rfl) (And.intro (Or.inr rfl) (And.intro (Or.inr rfl) (And.intro (Or.inr rfl) (And.intro (Or.inl rfl) True.intro))))))))) (g)))))))))))))))))))))) (l_Rs_findReadings_L55 hd v0 v1 v3 v4 v5 v6 hX n x31 (v7 + (1 : Int32)) σ30)
    exact J_some (fun h => j_icmp_t rfl (cc_ge_t h15) (j_weak (l := [some (.ref v0), some (.ref v1), some (.int v2), some (.int v3), some (.int v4), none, none, none, none]) (And.intro (Or.inr rfl) (And.intro (Or.inr rfl) (And.intro (Or.inr rfl) (And.intro (Or.inr rfl) (And.intro (Or.inr rfl) (And.intro (Or.inl rfl) (And.intro (Or.inl rfl) (And.intro (Or.inl rfl) (And.intro (Or.inr rfl) True.intro))))))))) (hX _ _ h)))

def f_Rs_findReadings_L19 (v0 : Nat) (v1 : Nat) (v3 : Int32) : Nat → Int32 → Int32 → q_H → Option ((Int32) × q_H)
  | 0, _, _, _ => none
  | n + 1, v2, v4, σ => if v4 < (3 : Int32) then ((q_ob σ 9 v1).bind fun w6 => q_sq (f_Ty_picked v1 v3 v4 σ) fun x8 σ7 => (q_ob σ7 9 v1).bind fun w9 => q_sq (f_Ty_all v1 v4 σ7) fun x11 σ10 => (q_ob σ10 0 v0).bind fun w12 => q_sq (f_Rs_addReading v0 v2 x8 x11 σ10) fun x14 σ13 => q_sq (f_Rs_findReadings_L55 v0 v1 v3 v4 x8 x11 q_FU x14 (0 : Int32) σ13) fun (t32 : Int32) σ33 => f_Rs_findReadings_L19 v0 v1 v3 n t32 (v4 + (1 : Int32)) σ33) else (some (v2, σ))
set_option maxRecDepth 100000 in
theorem l_Rs_findReadings_L19 {fo : Option Nat} {d : Nat} (hd : 5 ≤ d + 1) {o : q_O} {σ' : q_H} {E : (Int32) → q_H → Prop} (v0 : Nat) (v1 : Nat) (v3 : Int32) (hX : ∀ (t : Int32) σ1, E (t) σ1 → q_G (q_rf fo) d m_Rs_findReadings o σ' 123 [some (.ref v0), some (.ref v1), some (.int t), some (.int v3), none, none, none, none, none] [] σ1)  : ∀ (n : Nat) (v2 : Int32) (v4 : Int32) (σ : q_H), q_J E (f_Rs_findReadings_L19 v0 v1 v3 n v2 v4 σ) (q_G (q_rf fo) d m_Rs_findReadings o σ' 19 [some (.ref v0), some (.ref v1), some (.int v2), some (.int v3), some (.int v4), none, none, none, none] [] σ)
  | 0, v2, v4, σ => J_none
  | n + 1, v2, v4, σ => by
    unfold f_Rs_findReadings_L19
    refine q_J.step (fun g => j_iload rfl rfl (j_iconst (3 : Int32) rfl k32_3 (g))) ?_
    refine J_ite (fun h5 => ?_) (fun h5 => ?_)
    · refine J_bind fun w6 hw6 => ?_
      refine J_cl fun x8 σ7 hσ7 => ?_
      refine J_bind fun w9 hw9 => ?_
      refine J_cl fun x11 σ10 hσ10 => ?_
      refine J_bind fun w12 hw12 => ?_
      refine J_cl fun x14 σ13 hσ13 => ?_
      refine J_sq (fun (t32 : Int32) (σ33 : q_H) => q_G (q_rf fo) d m_Rs_findReadings o σ' 117 [some (.ref v0), some (.ref v1), some (.int t32), some (.int v3), some (.int v4), none, none, none, none] [] σ33) (q_J.step (fun g => j_icmp_f rfl (cc_ge_f h5) (j_aload_n rfl rfl (j_iload_n rfl rfl (j_iload rfl rfl (j_v1 [.ref v1, .int v3, .int v4] [] rfl rfl rfl rfl rfl rfl hw6 (Or.inl rfl) (t_Ty_picked (by omega) hσ7) (j_istore [some (.ref v0), some (.ref v1), some (.int v2), some (.int v3), some (.int v4), some (.int x8), none, none, none] rfl rfl (Or.inr rfl) rfl (j_aload_n rfl rfl (j_iload rfl rfl (j_v1 [.ref v1, .int v4] [] rfl rfl rfl rfl rfl rfl hw9 (Or.inl rfl) (t_Ty_all (by omega) hσ10) (j_istore [some (.ref v0), some (.ref v1), some (.int v2), some (.int v3), some (.int v4), some (.int x8), some (.int x11), none, none] rfl rfl (Or.inr rfl) rfl (j_aload_n rfl rfl (j_iload_n rfl rfl (j_iload rfl rfl (j_iload rfl rfl (j_v1 [.ref v0, .int v2, .int x8, .int x11] [] rfl rfl rfl rfl rfl rfl hw12 (Or.inl rfl) (t_Rs_addReading (by omega) hσ13) (j_istore_n [some (.ref v0), some (.ref v1), some (.int x14), some (.int v3), some (.int v4), some (.int x8), some (.int x11), none, none] rfl rfl (Or.inr rfl) rfl (j_iconst (0 : Int32) rfl k32_0 (j_istore [some (.ref v0), some (.ref v1), some (.int x14), some (.int v3), some (.int v4), some (.int x8), some (.int x11), some (.int (0 : Int32)), none] rfl rfl (Or.inr rfl) rfl (g))))))))))))))))))) (l_Rs_findReadings_L55 hd v0 v1 v3 v4 x8 x11 (fun _ _ h => h) q_FU x14 (0 : Int32) σ13)) (fun t32 σ33 => ?_)
      exact q_J.step (fun g => j_iinc [some (.ref v0), some (.ref v1), some (.int t32), some (.int v3), some (.int (v4 + (1 : Int32))), none, none, none, none] (v4 + (1 : Int32)) rfl rfl (by rw [k32_1]) (Or.inr rfl) rfl (j_goto rfl (g))) (l_Rs_findReadings_L19 hd v0 v1 v3 hX n t32 (v4 + (1 : Int32)) σ33)
    exact J_some (fun h => j_icmp_t rfl (cc_ge_t h5) (j_weak (l := [some (.ref v0), some (.ref v1), some (.int v2), some (.int v3), none, none, none, none, none]) (And.intro (Or.inr rfl) (And.intro (Or.inr rfl) (And.intro (Or.inr rfl) (And.intro (Or.inr rfl) (And.intro (Or.inl rfl) (And.intro (Or.inr rfl) (And.intro (Or.inr rfl) (And.intro (Or.inr rfl) (And.intro (Or.inr rfl) True.intro))))))))) (hX _ _ h)))

def f_Rs_findReadings_L11 (v0 : Nat) (v1 : Nat) : Nat → Int32 → Int32 → q_H → Option ((Int32) × q_H)
  | 0, _, _, _ => none
  | n + 1, v2, v3, σ => if v3 < (3 : Int32) then (q_sq (f_Rs_findReadings_L19 v0 v1 v3 q_FU v2 (0 : Int32) σ) fun (t34 : Int32) σ35 => f_Rs_findReadings_L11 v0 v1 n t34 (v3 + (1 : Int32)) σ35) else (some (v2, σ))
set_option maxRecDepth 100000 in
theorem l_Rs_findReadings_L11 {fo : Option Nat} {d : Nat} (hd : 5 ≤ d + 1) {o : q_O} {σ' : q_H} {E : (Int32) → q_H → Prop} (v0 : Nat) (v1 : Nat) (hX : ∀ (t : Int32) σ1, E (t) σ1 → q_G (q_rf fo) d m_Rs_findReadings o σ' 129 [none, none, some (.int t), none, none, none, none, none, none] [] σ1)  : ∀ (n : Nat) (v2 : Int32) (v3 : Int32) (σ : q_H), q_J E (f_Rs_findReadings_L11 v0 v1 n v2 v3 σ) (q_G (q_rf fo) d m_Rs_findReadings o σ' 11 [some (.ref v0), some (.ref v1), some (.int v2), some (.int v3), none, none, none, none, none] [] σ)
  | 0, v2, v3, σ => J_none
  | n + 1, v2, v3, σ => by
    unfold f_Rs_findReadings_L11
    refine q_J.step (fun g => j_iload_n rfl rfl (j_iconst (3 : Int32) rfl k32_3 (g))) ?_
    refine J_ite (fun h4 => ?_) (fun h4 => ?_)
    · refine J_sq (fun (t34 : Int32) (σ35 : q_H) => q_G (q_rf fo) d m_Rs_findReadings o σ' 123 [some (.ref v0), some (.ref v1), some (.int t34), some (.int v3), none, none, none, none, none] [] σ35) (q_J.step (fun g => j_icmp_f rfl (cc_ge_f h4) (j_iconst (0 : Int32) rfl k32_0 (j_istore [some (.ref v0), some (.ref v1), some (.int v2), some (.int v3), some (.int (0 : Int32)), none, none, none, none] rfl rfl (Or.inr rfl) rfl (g)))) (l_Rs_findReadings_L19 hd v0 v1 v3 (fun _ _ h => h) q_FU v2 (0 : Int32) σ)) (fun t34 σ35 => ?_)
      exact q_J.step (fun g => j_iinc [some (.ref v0), some (.ref v1), some (.int t34), some (.int (v3 + (1 : Int32))), none, none, none, none, none] (v3 + (1 : Int32)) rfl rfl (by rw [k32_1]) (Or.inr rfl) rfl (j_goto rfl (g))) (l_Rs_findReadings_L11 hd v0 v1 hX n t34 (v3 + (1 : Int32)) σ35)
    exact J_some (fun h => j_icmp_t rfl (cc_ge_t h4) (j_weak (l := [none, none, some (.int v2), none, none, none, none, none, none]) (And.intro (Or.inl rfl) (And.intro (Or.inl rfl) (And.intro (Or.inr rfl) (And.intro (Or.inl rfl) (And.intro (Or.inr rfl) (And.intro (Or.inr rfl) (And.intro (Or.inr rfl) (And.intro (Or.inr rfl) (And.intro (Or.inr rfl) True.intro))))))))) (hX _ _ h)))

def f_Rs_findReadings (v0 : Nat) (σ : q_H) : Option ((Int32) × q_H) := (q_ob σ 0 v0).bind fun w1 => q_sq (f_Rs_gather v0 (0 : Int32) (0 : Int32) σ) fun x3 σ2 => q_sq (f_Rs_findReadings_L11 v0 x3 q_FU (0 : Int32) (0 : Int32) σ2) fun (t36 : Int32) σ37 => some (t36, σ37)
set_option maxRecDepth 100000 in
theorem b_Rs_findReadings {fo : Option Nat} {d : Nat} (hd : 5 ≤ d + 1) {o : q_O} {σ' : q_H} (v0 : Nat) (σ : q_H) : q_J (fun (r : Int32) (σ1 : q_H) => o = .inl (some (.int r)) ∧ σ' = σ1) (f_Rs_findReadings v0 σ) (q_G (q_rf fo) d m_Rs_findReadings o σ' 0 [some (.ref v0), none, none, none, none, none, none, none, none] [] σ) := by
  unfold f_Rs_findReadings
  refine J_bind fun w1 hw1 => ?_
  refine J_cl fun x3 σ2 hσ2 => ?_
  refine J_sq (fun (t36 : Int32) (σ37 : q_H) => q_G (q_rf fo) d m_Rs_findReadings o σ' 129 [none, none, some (.int t36), none, none, none, none, none, none] [] σ37) (q_J.step (fun g => j_aload_n rfl rfl (j_iconst (0 : Int32) rfl k32_0 (j_iconst (0 : Int32) rfl k32_0 (j_v1 [.ref v0, .int (0 : Int32), .int (0 : Int32)] [] rfl rfl rfl rfl rfl rfl hw1 (Or.inl rfl) (t_Rs_gather (by omega) hσ2) (j_astore_n [some (.ref v0), some (.ref x3), none, none, none, none, none, none, none] rfl rfl (Or.inr rfl) rfl (j_iconst (0 : Int32) rfl k32_0 (j_istore_n [some (.ref v0), some (.ref x3), some (.int (0 : Int32)), none, none, none, none, none, none] rfl rfl (Or.inr rfl) rfl (j_iconst (0 : Int32) rfl k32_0 (j_istore_n [some (.ref v0), some (.ref x3), some (.int (0 : Int32)), some (.int (0 : Int32)), none, none, none, none, none] rfl rfl (Or.inr rfl) rfl (g)))))))))) (l_Rs_findReadings_L11 hd v0 x3 (fun _ _ h => h) q_FU (0 : Int32) (0 : Int32) σ2)) (fun t36 σ37 => ?_)
  exact J_some (fun h => j_iload_n rfl rfl (j_iret rfl rfl h))
theorem t_Rs_findReadings {fo : Option Nat} {d : Nat} (hd : 5 ≤ d) {v0 : Nat} {σ σ1 : q_H} {r : Int32} (h : f_Rs_findReadings v0 σ = some (r, σ1)) : q_Rel (q_rf fo) q_Ms d 155 [.ref v0] σ (.inl (some (.int r))) σ1 := by
  obtain ⟨d, rfl⟩ : ∃ d1, d = d1 + 1 := ⟨d - 1, by omega⟩
  exact q_Rel.of rfl rfl (b_Rs_findReadings hd _ σ _ _ h ⟨rfl, rfl⟩)

def f_Sr_parseHead (v0 : Nat) (v1 : Int32) (v2 : Int32) (σ : q_H) : Option ((Int32) × q_H) := (q_gr (q_gf σ 7 v0 2)).bind fun x1 => (q_gr (q_gf σ 8 x1 4)).bind fun x2 => if ¬ (v2 = 0 ∨ v2 = 1) then none else (q_sa σ 22 x2 v1 (.int v2)).bind fun σ3 => (q_gr (q_gf σ3 7 v0 2)).bind fun x5 => (q_gr (q_gf σ3 8 x5 7)).bind fun x6 => (q_sa σ3 20 x6 v1 (.int (-1 : Int32))).bind fun σ7 => (q_gr (q_gf σ7 7 v0 2)).bind fun x8 => (q_gr (q_gf σ7 8 x8 8)).bind fun x9 => (q_sa σ7 20 x9 v1 (.int (-1 : Int32))).bind fun σ10 => (q_gr (q_gf σ10 7 v0 0)).bind fun x11 => (q_ob σ10 1 x11).bind fun w12 => q_sq (f_Ta_advance x11 σ10) fun (_ : Unit) σ13 => (q_ob σ13 7 v0).bind fun w15 => q_sq (f_Sr_isName v0 σ13) fun x17 σ16 => if x17 = (0 : Int32) then ((q_gr (q_gf σ16 7 v0 0)).bind fun x19 => (q_ob σ16 1 x19).bind fun w20 => q_sq (f_Ta_fault x19 (1 : Int32) σ16) fun x22 σ21 => some (x22, σ21)) else ((q_gr (q_gf σ16 7 v0 2)).bind fun x23 => (q_gr (q_gf σ16 7 v0 0)).bind fun x24 => (q_gl' (q_gf σ16 1 x24 5)).bind fun x25 => (q_ob σ16 8 x23).bind fun w26 => q_sq (f_Pa_lineOf x23 x25 σ16) fun x28 σ27 => if x28 = (-1 : Int32) then ((q_gr (q_gf σ27 7 v0 2)).bind fun x30 => (q_gr (q_gf σ27 8 x30 1)).bind fun x31 => (q_gr (q_gf σ27 7 v0 0)).bind fun x32 => (q_gl' (q_gf σ27 1 x32 5)).bind fun x33 => (q_sa σ27 21 x31 v1 (.long x33)).bind fun σ34 => (q_gr (q_gf σ34 7 v0 0)).bind fun x35 => (q_ob σ34 1 x35).bind fun w36 => q_sq (f_Ta_advance x35 σ34) fun (_ : Unit) σ37 => (q_gr (q_gf σ37 7 v0 0)).bind fun x39 => (q_gi (q_gf σ37 1 x39 3)).bind fun x40 => if x40 = (2 : Int32) then ((q_gr (q_gf σ37 7 v0 0)).bind fun x42 => (q_gl' (q_gf σ37 1 x42 5)).bind fun x43 => if (120 : Int64) < x43 then ((q_gr (q_gf σ37 7 v0 0)).bind fun x45 => (q_ob σ37 1 x45).bind fun w46 => q_sq (f_Ta_fault x45 (4 : Int32) σ37) fun x48 σ47 => some (x48, σ47)) else ((q_gr (q_gf σ37 7 v0 2)).bind fun x49 => (q_gr (q_gf σ37 8 x49 5)).bind fun x50 => (q_gr (q_gf σ37 7 v0 0)).bind fun x51 => (q_gl' (q_gf σ37 1 x51 5)).bind fun x52 => (q_sa σ37 20 x50 v1 (.int x52.toInt32)).bind fun σ53 => some ((0 : Int32), σ53))) else ((q_gr (q_gf σ37 7 v0 0)).bind fun x54 => (q_ob σ37 1 x54).bind fun w55 => q_sq (f_Ta_fault x54 (1 : Int32) σ37) fun x57 σ56 => some (x57, σ56))) else ((q_gr (q_gf σ27 7 v0 0)).bind fun x58 => (q_ob σ27 1 x58).bind fun w59 => q_sq (f_Ta_fault x58 (3 : Int32) σ27) fun x61 σ60 => some (x61, σ60)))
set_option maxRecDepth 100000 in
theorem b_Sr_parseHead {fo : Option Nat} {d : Nat} (hd : 6 ≤ d + 1) {o : q_O} {σ' : q_H} (v0 : Nat) (v1 : Int32) (v2 : Int32) (σ : q_H) : q_J (fun (r : Int32) (σ1 : q_H) => o = .inl (some (.int r)) ∧ σ' = σ1) (f_Sr_parseHead v0 v1 v2 σ) (q_G (q_rf fo) d m_Sr_parseHead o σ' 0 [some (.ref v0), some (.int v1), some (.int v2)] [] σ) := by
  unfold f_Sr_parseHead
  refine J_bind fun x1 hx1 => ?_
  refine J_bind fun x2 hx2 => ?_
  refine q_J.step (fun g => j_aload_n rfl rfl (j_gfr rfl hx1 (j_gfr rfl hx2 (j_iload_n rfl rfl (j_iload_n rfl rfl (g)))))) ?_
  refine J_ite (fun _ => J_none) (fun h4 => ?_)
  refine J_bind fun σ3 hσ3 => ?_
  refine J_bind fun x5 hx5 => ?_
  refine J_bind fun x6 hx6 => ?_
  refine J_bind fun σ7 hσ7 => ?_
  refine J_bind fun x8 hx8 => ?_
  refine J_bind fun x9 hx9 => ?_
  refine J_bind fun σ10 hσ10 => ?_
  refine J_bind fun x11 hx11 => ?_
  refine J_bind fun w12 hw12 => ?_
  refine J_cl fun _ σ13 hσ13 => ?_
  refine J_bind fun w15 hw15 => ?_
  refine J_cl fun x17 σ16 hσ16 => ?_
  refine q_J.step (fun g => j_bas rfl (Decidable.not_not.mp h4) hσ3 (j_aload_n rfl rfl (j_gfr rfl hx5 (j_gfr rfl hx6 (j_iload_n rfl rfl (j_iconst (-1 : Int32) rfl k32_m1 (j_ias rfl hσ7 (j_aload_n rfl rfl (j_gfr rfl hx8 (j_gfr rfl hx9 (j_iload_n rfl rfl (j_iconst (-1 : Int32) rfl k32_m1 (j_ias rfl hσ10 (j_aload_n rfl rfl (g))))))))))))))) ?_
  refine q_J.step (fun g => j_gfr rfl hx11 (j_v0 [.ref x11] [] rfl rfl rfl rfl rfl rfl hw12 (Or.inl rfl) (t_Ta_advance (by omega) hσ13) (j_aload_n rfl rfl (j_v1 [.ref v0] [] rfl rfl rfl rfl rfl rfl hw15 (Or.inl rfl) (t_Sr_isName (by omega) hσ16) (g))))) ?_
  refine J_ite (fun h18 => ?_) (fun h18 => ?_)
  · refine J_bind fun x19 hx19 => ?_
    refine J_bind fun w20 hw20 => ?_
    refine J_cl fun x22 σ21 hσ21 => ?_
    exact J_some (fun h => j_if_f rfl (cc_ne_f h18) (j_aload_n rfl rfl (j_gfr rfl hx19 (j_iconst (1 : Int32) rfl k32_1 (j_v1 [.ref x19, .int (1 : Int32)] [] rfl rfl rfl rfl rfl rfl hw20 (Or.inl rfl) (t_Ta_fault (by omega) hσ21) (j_iret rfl rfl h))))))
  refine J_bind fun x23 hx23 => ?_
  refine J_bind fun x24 hx24 => ?_
  refine J_bind fun x25 hx25 => ?_
  refine J_bind fun w26 hw26 => ?_
  refine J_cl fun x28 σ27 hσ27 => ?_
  refine q_J.step (fun g => j_if_t rfl (cc_ne_t h18) (j_aload_n rfl rfl (j_gfr rfl hx23 (j_aload_n rfl rfl (j_gfr rfl hx24 (j_gfl rfl hx25 (j_v1 [.ref x23, .long x25] [] rfl rfl rfl rfl rfl rfl hw26 (Or.inl rfl) (t_Pa_lineOf (by omega) hσ27) (j_iconst (-1 : Int32) rfl k32_m1 (g))))))))) ?_
  refine J_ite (fun h29 => ?_) (fun h29 => ?_)
  · refine J_bind fun x30 hx30 => ?_
    refine J_bind fun x31 hx31 => ?_
    refine J_bind fun x32 hx32 => ?_
    refine J_bind fun x33 hx33 => ?_
    refine J_bind fun σ34 hσ34 => ?_
    refine J_bind fun x35 hx35 => ?_
    refine J_bind fun w36 hw36 => ?_
    refine J_cl fun _ σ37 hσ37 => ?_
    refine J_bind fun x39 hx39 => ?_
    refine J_bind fun x40 hx40 => ?_
    refine q_J.step (fun g => j_icmp_t rfl (cc_eq_t h29) (j_aload_n rfl rfl (j_gfr rfl hx30 (j_gfr rfl hx31 (j_iload_n rfl rfl (j_aload_n rfl rfl (j_gfr rfl hx32 (j_gfl rfl hx33 (j_las rfl hσ34 (j_aload_n rfl rfl (j_gfr rfl hx35 (j_v0 [.ref x35] [] rfl rfl rfl rfl rfl rfl hw36 (Or.inl rfl) (t_Ta_advance (by omega) hσ37) (j_aload_n rfl rfl (j_gfr rfl hx39 (g))))))))))))))) ?_
    refine q_J.step (fun g => j_gfi rfl hx40 (j_iconst (2 : Int32) rfl k32_2 (g))) ?_
    refine J_ite (fun h41 => ?_) (fun h41 => ?_)
    · refine J_bind fun x42 hx42 => ?_
      refine J_bind fun x43 hx43 => ?_
      refine q_J.step (fun g => j_icmp_t rfl (cc_eq_t h41) (j_aload_n rfl rfl (j_gfr rfl hx42 (j_gfl rfl hx43 (j_ldc2 (120 : Int64) rfl kw_120 (j_lcmp rfl (g))))))) ?_
      refine J_ite (fun h44 => ?_) (fun h44 => ?_)
      · refine J_bind fun x45 hx45 => ?_
        refine J_bind fun w46 hw46 => ?_
        refine J_cl fun x48 σ47 hσ47 => ?_
        exact J_some (fun h => j_if_f rfl (lc_le_f h44) (j_aload_n rfl rfl (j_gfr rfl hx45 (j_iconst (4 : Int32) rfl k32_4 (j_v1 [.ref x45, .int (4 : Int32)] [] rfl rfl rfl rfl rfl rfl hw46 (Or.inl rfl) (t_Ta_fault (by omega) hσ47) (j_iret rfl rfl h))))))
      refine J_bind fun x49 hx49 => ?_
      refine J_bind fun x50 hx50 => ?_
      refine J_bind fun x51 hx51 => ?_
      refine J_bind fun x52 hx52 => ?_
      refine J_bind fun σ53 hσ53 => ?_
      exact J_some (fun h => j_if_t rfl (lc_le_t h44) (j_aload_n rfl rfl (j_gfr rfl hx49 (j_gfr rfl hx50 (j_iload_n rfl rfl (j_aload_n rfl rfl (j_gfr rfl hx51 (j_gfl rfl hx52 (j_l2i rfl (j_ias rfl hσ53 (j_iconst (0 : Int32) rfl k32_0 (j_iret rfl rfl h))))))))))))
    refine J_bind fun x54 hx54 => ?_
    refine J_bind fun w55 hw55 => ?_
    refine J_cl fun x57 σ56 hσ56 => ?_
    exact J_some (fun h => j_icmp_f rfl (cc_eq_f h41) (j_aload_n rfl rfl (j_gfr rfl hx54 (j_iconst (1 : Int32) rfl k32_1 (j_v1 [.ref x54, .int (1 : Int32)] [] rfl rfl rfl rfl rfl rfl hw55 (Or.inl rfl) (t_Ta_fault (by omega) hσ56) (j_iret rfl rfl h))))))
  refine J_bind fun x58 hx58 => ?_
  refine J_bind fun w59 hw59 => ?_
  refine J_cl fun x61 σ60 hσ60 => ?_
  exact J_some (fun h => j_icmp_f rfl (cc_eq_f h29) (j_aload_n rfl rfl (j_gfr rfl hx58 (j_iconst (3 : Int32) rfl k32_3 (j_v1 [.ref x58, .int (3 : Int32)] [] rfl rfl rfl rfl rfl rfl hw59 (Or.inl rfl) (t_Ta_fault (by omega) hσ60) (j_iret rfl rfl h))))))
theorem t_Sr_parseHead {fo : Option Nat} {d : Nat} (hd : 6 ≤ d) {v0 : Nat} {v1 : Int32} {v2 : Int32} {σ σ1 : q_H} {r : Int32} (h : f_Sr_parseHead v0 v1 v2 σ = some (r, σ1)) : q_Rel (q_rf fo) q_Ms d 74 [.ref v0, .int v1, .int v2] σ (.inl (some (.int r))) σ1 := by
  obtain ⟨d, rfl⟩ : ∃ d1, d = d1 + 1 := ⟨d - 1, by omega⟩
  exact q_Rel.of rfl rfl (b_Sr_parseHead hd _ _ _ σ _ _ h ⟨rfl, rfl⟩)

def f_Sr_parseTag (v0 : Nat) (v1 : Int32) (v2 : Int32) (σ : q_H) : Option ((Int32) × q_H) := (q_gr (q_gf σ 7 v0 2)).bind fun x1 => (q_gr (q_gf σ 8 x1 6)).bind fun x2 => (q_gi (q_ga σ 20 x2 v1)).bind fun x3 => (q_gi (q_ga σ 20 1 v2)).bind fun x4 => if (x3 &&& x4) = (0 : Int32) then ((q_gr (q_gf σ 7 v0 2)).bind fun x6 => (q_gr (q_gf σ 8 x6 4)).bind fun x7 => (q_gi (q_ga σ 22 x7 v1)).bind fun x8 => if x8 = (0 : Int32) then (if v2 = (2 : Int32) then (if v2 = (4 : Int32) then ((q_gr (q_gf σ 7 v0 2)).bind fun x12 => (q_gr (q_gf σ 8 x12 6)).bind fun x13 => (q_gi (q_ga σ 20 x13 v1)).bind fun x14 => q_sq (if (x14 &&& (128 : Int32)) = (0 : Int32) then (some ((1 : Int32), σ)) else (some ((0 : Int32), σ))) fun (t16 : Int32) σ17 => if (1 : Int32) = (0 : Int32) then (if t16 = (0 : Int32) then ((q_gr (q_gf σ17 7 v0 2)).bind fun x20 => (q_gr (q_gf σ17 8 x20 6)).bind fun x21 => (q_gi (q_ga σ17 20 x21 v1)).bind fun x22 => (q_gi (q_ga σ17 20 1 v2)).bind fun x23 => (q_sa σ17 20 x21 v1 (.int (x22 ||| x23))).bind fun σ24 => if (3 : Int32) < v2 then (some ((0 : Int32), σ24)) else ((q_gr (q_gf σ24 7 v0 0)).bind fun x26 => (q_ob σ24 1 x26).bind fun w27 => q_sq (f_Ta_advance x26 σ24) fun (_ : Unit) σ28 => (q_ob σ28 7 v0).bind fun w30 => q_sq (f_Sr_isName v0 σ28) fun x32 σ31 => if x32 = (0 : Int32) then ((q_gr (q_gf σ31 7 v0 0)).bind fun x34 => (q_ob σ31 1 x34).bind fun w35 => q_sq (f_Ta_fault x34 (1 : Int32) σ31) fun x37 σ36 => some (x37, σ36)) else ((q_ob σ31 7 v0).bind fun w38 => q_sq (f_Sr_takeName v0 v1 v2 σ31) fun x40 σ39 => some (x40, σ39)))) else ((q_gr (q_gf σ17 7 v0 0)).bind fun x41 => (q_ob σ17 1 x41).bind fun w42 => q_sq (f_Ta_fault x41 (6 : Int32) σ17) fun x44 σ43 => some (x44, σ43))) else ((q_gr (q_gf σ17 7 v0 0)).bind fun x45 => (q_ob σ17 1 x45).bind fun w46 => q_sq (f_Ta_fault x45 (6 : Int32) σ17) fun x48 σ47 => some (x48, σ47))) else (if (1 : Int32) = (0 : Int32) then (if (0 : Int32) = (0 : Int32) then ((q_gr (q_gf σ 7 v0 2)).bind fun x51 => (q_gr (q_gf σ 8 x51 6)).bind fun x52 => (q_gi (q_ga σ 20 x52 v1)).bind fun x53 => (q_gi (q_ga σ 20 1 v2)).bind fun x54 => (q_sa σ 20 x52 v1 (.int (x53 ||| x54))).bind fun σ55 => if (3 : Int32) < v2 then (some ((0 : Int32), σ55)) else ((q_gr (q_gf σ55 7 v0 0)).bind fun x57 => (q_ob σ55 1 x57).bind fun w58 => q_sq (f_Ta_advance x57 σ55) fun (_ : Unit) σ59 => (q_ob σ59 7 v0).bind fun w61 => q_sq (f_Sr_isName v0 σ59) fun x63 σ62 => if x63 = (0 : Int32) then ((q_gr (q_gf σ62 7 v0 0)).bind fun x65 => (q_ob σ62 1 x65).bind fun w66 => q_sq (f_Ta_fault x65 (1 : Int32) σ62) fun x68 σ67 => some (x68, σ67)) else ((q_ob σ62 7 v0).bind fun w69 => q_sq (f_Sr_takeName v0 v1 v2 σ62) fun x71 σ70 => some (x71, σ70)))) else ((q_gr (q_gf σ 7 v0 0)).bind fun x72 => (q_ob σ 1 x72).bind fun w73 => q_sq (f_Ta_fault x72 (6 : Int32) σ) fun x75 σ74 => some (x75, σ74))) else ((q_gr (q_gf σ 7 v0 0)).bind fun x76 => (q_ob σ 1 x76).bind fun w77 => q_sq (f_Ta_fault x76 (6 : Int32) σ) fun x79 σ78 => some (x79, σ78)))) else (q_sq (if v2 = (3 : Int32) then (some ((1 : Int32), σ)) else (some ((0 : Int32), σ))) fun (t81 : Int32) σ82 => if v2 = (4 : Int32) then ((q_gr (q_gf σ82 7 v0 2)).bind fun x84 => (q_gr (q_gf σ82 8 x84 6)).bind fun x85 => (q_gi (q_ga σ82 20 x85 v1)).bind fun x86 => q_sq (if (x86 &&& (128 : Int32)) = (0 : Int32) then (some ((1 : Int32), σ82)) else (some ((0 : Int32), σ82))) fun (t88 : Int32) σ89 => if t81 = (0 : Int32) then (if t88 = (0 : Int32) then ((q_gr (q_gf σ89 7 v0 2)).bind fun x92 => (q_gr (q_gf σ89 8 x92 6)).bind fun x93 => (q_gi (q_ga σ89 20 x93 v1)).bind fun x94 => (q_gi (q_ga σ89 20 1 v2)).bind fun x95 => (q_sa σ89 20 x93 v1 (.int (x94 ||| x95))).bind fun σ96 => if (3 : Int32) < v2 then (some ((0 : Int32), σ96)) else ((q_gr (q_gf σ96 7 v0 0)).bind fun x98 => (q_ob σ96 1 x98).bind fun w99 => q_sq (f_Ta_advance x98 σ96) fun (_ : Unit) σ100 => (q_ob σ100 7 v0).bind fun w102 => q_sq (f_Sr_isName v0 σ100) fun x104 σ103 => if x104 = (0 : Int32) then ((q_gr (q_gf σ103 7 v0 0)).bind fun x106 => (q_ob σ103 1 x106).bind fun w107 => q_sq (f_Ta_fault x106 (1 : Int32) σ103) fun x109 σ108 => some (x109, σ108)) else ((q_ob σ103 7 v0).bind fun w110 => q_sq (f_Sr_takeName v0 v1 v2 σ103) fun x112 σ111 => some (x112, σ111)))) else ((q_gr (q_gf σ89 7 v0 0)).bind fun x113 => (q_ob σ89 1 x113).bind fun w114 => q_sq (f_Ta_fault x113 (6 : Int32) σ89) fun x116 σ115 => some (x116, σ115))) else ((q_gr (q_gf σ89 7 v0 0)).bind fun x117 => (q_ob σ89 1 x117).bind fun w118 => q_sq (f_Ta_fault x117 (6 : Int32) σ89) fun x120 σ119 => some (x120, σ119))) else (if t81 = (0 : Int32) then (if (0 : Int32) = (0 : Int32) then ((q_gr (q_gf σ82 7 v0 2)).bind fun x123 => (q_gr (q_gf σ82 8 x123 6)).bind fun x124 => (q_gi (q_ga σ82 20 x124 v1)).bind fun x125 => (q_gi (q_ga σ82 20 1 v2)).bind fun x126 => (q_sa σ82 20 x124 v1 (.int (x125 ||| x126))).bind fun σ127 => if (3 : Int32) < v2 then (some ((0 : Int32), σ127)) else ((q_gr (q_gf σ127 7 v0 0)).bind fun x129 => (q_ob σ127 1 x129).bind fun w130 => q_sq (f_Ta_advance x129 σ127) fun (_ : Unit) σ131 => (q_ob σ131 7 v0).bind fun w133 => q_sq (f_Sr_isName v0 σ131) fun x135 σ134 => if x135 = (0 : Int32) then ((q_gr (q_gf σ134 7 v0 0)).bind fun x137 => (q_ob σ134 1 x137).bind fun w138 => q_sq (f_Ta_fault x137 (1 : Int32) σ134) fun x140 σ139 => some (x140, σ139)) else ((q_ob σ134 7 v0).bind fun w141 => q_sq (f_Sr_takeName v0 v1 v2 σ134) fun x143 σ142 => some (x143, σ142)))) else ((q_gr (q_gf σ82 7 v0 0)).bind fun x144 => (q_ob σ82 1 x144).bind fun w145 => q_sq (f_Ta_fault x144 (6 : Int32) σ82) fun x147 σ146 => some (x147, σ146))) else ((q_gr (q_gf σ82 7 v0 0)).bind fun x148 => (q_ob σ82 1 x148).bind fun w149 => q_sq (f_Ta_fault x148 (6 : Int32) σ82) fun x151 σ150 => some (x151, σ150))))) else (if v2 = (4 : Int32) then ((q_gr (q_gf σ 7 v0 2)).bind fun x153 => (q_gr (q_gf σ 8 x153 6)).bind fun x154 => (q_gi (q_ga σ 20 x154 v1)).bind fun x155 => q_sq (if (x155 &&& (128 : Int32)) = (0 : Int32) then (some ((1 : Int32), σ)) else (some ((0 : Int32), σ))) fun (t157 : Int32) σ158 => if (0 : Int32) = (0 : Int32) then (if t157 = (0 : Int32) then ((q_gr (q_gf σ158 7 v0 2)).bind fun x161 => (q_gr (q_gf σ158 8 x161 6)).bind fun x162 => (q_gi (q_ga σ158 20 x162 v1)).bind fun x163 => (q_gi (q_ga σ158 20 1 v2)).bind fun x164 => (q_sa σ158 20 x162 v1 (.int (x163 ||| x164))).bind fun σ165 => if (3 : Int32) < v2 then (some ((0 : Int32), σ165)) else ((q_gr (q_gf σ165 7 v0 0)).bind fun x167 => (q_ob σ165 1 x167).bind fun w168 => q_sq (f_Ta_advance x167 σ165) fun (_ : Unit) σ169 => (q_ob σ169 7 v0).bind fun w171 => q_sq (f_Sr_isName v0 σ169) fun x173 σ172 => if x173 = (0 : Int32) then ((q_gr (q_gf σ172 7 v0 0)).bind fun x175 => (q_ob σ172 1 x175).bind fun w176 => q_sq (f_Ta_fault x175 (1 : Int32) σ172) fun x178 σ177 => some (x178, σ177)) else ((q_ob σ172 7 v0).bind fun w179 => q_sq (f_Sr_takeName v0 v1 v2 σ172) fun x181 σ180 => some (x181, σ180)))) else ((q_gr (q_gf σ158 7 v0 0)).bind fun x182 => (q_ob σ158 1 x182).bind fun w183 => q_sq (f_Ta_fault x182 (6 : Int32) σ158) fun x185 σ184 => some (x185, σ184))) else ((q_gr (q_gf σ158 7 v0 0)).bind fun x186 => (q_ob σ158 1 x186).bind fun w187 => q_sq (f_Ta_fault x186 (6 : Int32) σ158) fun x189 σ188 => some (x189, σ188))) else (if (0 : Int32) = (0 : Int32) then (if (0 : Int32) = (0 : Int32) then ((q_gr (q_gf σ 7 v0 2)).bind fun x192 => (q_gr (q_gf σ 8 x192 6)).bind fun x193 => (q_gi (q_ga σ 20 x193 v1)).bind fun x194 => (q_gi (q_ga σ 20 1 v2)).bind fun x195 => (q_sa σ 20 x193 v1 (.int (x194 ||| x195))).bind fun σ196 => if (3 : Int32) < v2 then (some ((0 : Int32), σ196)) else ((q_gr (q_gf σ196 7 v0 0)).bind fun x198 => (q_ob σ196 1 x198).bind fun w199 => q_sq (f_Ta_advance x198 σ196) fun (_ : Unit) σ200 => (q_ob σ200 7 v0).bind fun w202 => q_sq (f_Sr_isName v0 σ200) fun x204 σ203 => if x204 = (0 : Int32) then ((q_gr (q_gf σ203 7 v0 0)).bind fun x206 => (q_ob σ203 1 x206).bind fun w207 => q_sq (f_Ta_fault x206 (1 : Int32) σ203) fun x209 σ208 => some (x209, σ208)) else ((q_ob σ203 7 v0).bind fun w210 => q_sq (f_Sr_takeName v0 v1 v2 σ203) fun x212 σ211 => some (x212, σ211)))) else ((q_gr (q_gf σ 7 v0 0)).bind fun x213 => (q_ob σ 1 x213).bind fun w214 => q_sq (f_Ta_fault x213 (6 : Int32) σ) fun x216 σ215 => some (x216, σ215))) else ((q_gr (q_gf σ 7 v0 0)).bind fun x217 => (q_ob σ 1 x217).bind fun w218 => q_sq (f_Ta_fault x217 (6 : Int32) σ) fun x220 σ219 => some (x220, σ219))))) else ((q_gr (q_gf σ 7 v0 0)).bind fun x221 => (q_ob σ 1 x221).bind fun w222 => q_sq (f_Ta_fault x221 (3 : Int32) σ) fun x224 σ223 => some (x224, σ223))
set_option maxRecDepth 100000 in
theorem b_Sr_parseTag {fo : Option Nat} {d : Nat} (hd : 6 ≤ d + 1) {o : q_O} {σ' : q_H} (v0 : Nat) (v1 : Int32) (v2 : Int32) (σ : q_H) : q_J (fun (r : Int32) (σ1 : q_H) => o = .inl (some (.int r)) ∧ σ' = σ1) (f_Sr_parseTag v0 v1 v2 σ) (q_G (q_rf fo) d m_Sr_parseTag o σ' 0 [some (.ref v0), some (.int v1), some (.int v2), none, none] [] σ) := by
  unfold f_Sr_parseTag
  refine J_bind fun x1 hx1 => ?_
  refine J_bind fun x2 hx2 => ?_
  refine J_bind fun x3 hx3 => ?_
  refine J_bind fun x4 hx4 => ?_
  refine q_J.step (fun g => j_aload_n rfl rfl (j_gfr rfl hx1 (j_gfr rfl hx2 (j_iload_n rfl rfl (j_ial rfl hx3 (j_gets (.ref 1) rfl rfl (j_iload_n rfl rfl (j_ial rfl hx4 (j_iand rfl (g)))))))))) ?_
  refine J_ite (fun h5 => ?_) (fun h5 => ?_)
  · refine J_bind fun x6 hx6 => ?_
    refine J_bind fun x7 hx7 => ?_
    refine J_bind fun x8 hx8 => ?_
    refine q_J.step (fun g => j_if_t rfl (cc_eq_t h5) (j_aload_n rfl rfl (j_gfr rfl hx6 (j_gfr rfl hx7 (j_iload_n rfl rfl (j_bal rfl rfl hx8 (g))))))) ?_
    refine J_ite (fun h9 => ?_) (fun h9 => ?_)
    · refine q_J.step (fun g => j_if_f rfl (cc_ne_f h9) (j_iload_n rfl rfl (j_iconst (2 : Int32) rfl k32_2 (g)))) ?_
      refine J_ite (fun h10 => ?_) (fun h10 => ?_)
      · refine q_J.step (fun g => j_icmp_t rfl (cc_eq_t h10) (j_iconst (1 : Int32) rfl k32_1 (j_goto rfl (j_istore_n [some (.ref v0), some (.int v1), some (.int v2), some (.int (1 : Int32)), none] rfl rfl (Or.inr rfl) rfl (j_iload_n rfl rfl (j_iconst (4 : Int32) rfl k32_4 (g))))))) ?_
        refine J_ite (fun h11 => ?_) (fun h11 => ?_)
        · refine J_bind fun x12 hx12 => ?_
          refine J_bind fun x13 hx13 => ?_
          refine J_bind fun x14 hx14 => ?_
          refine q_J.step (fun g => j_icmp_f rfl (cc_ne_f h11) (j_aload_n rfl rfl (j_gfr rfl hx12 (j_gfr rfl hx13 (j_iload_n rfl rfl (j_ial rfl hx14 (j_sipush (128 : Int32) rfl ks_128 (j_iand rfl (g))))))))) ?_
          refine J_sq (fun (t16 : Int32) (σ17 : q_H) => q_G (q_rf fo) d m_Sr_parseTag o σ' 81 [some (.ref v0), some (.int v1), some (.int v2), some (.int (1 : Int32)), none] [.int t16] σ17) ?_ (fun t16 σ17 => ?_)
          · refine J_ite (fun h15 => ?_) (fun h15 => ?_)
            · exact J_some (fun h => j_if_f rfl (cc_ne_f h15) (j_iconst (1 : Int32) rfl k32_1 (j_goto rfl (h))))
            exact J_some (fun h => j_if_t rfl (cc_ne_t h15) (j_iconst (0 : Int32) rfl k32_0 (h)))
          refine q_J.step (fun g => j_istore [some (.ref v0), some (.int v1), some (.int v2), some (.int (1 : Int32)), some (.int t16)] rfl rfl (Or.inr rfl) rfl (j_iload_n rfl rfl (g))) ?_
          refine J_ite (fun h18 => ?_) (fun h18 => ?_)
          · refine q_J.step (fun g => j_if_f rfl (cc_ne_f h18) (j_iload rfl rfl (g))) ?_
            refine J_ite (fun h19 => ?_) (fun h19 => ?_)
            · refine J_bind fun x20 hx20 => ?_
              refine J_bind fun x21 hx21 => ?_
              refine J_bind fun x22 hx22 => ?_
              refine J_bind fun x23 hx23 => ?_
              refine J_bind fun σ24 hσ24 => ?_
              refine q_J.step (fun g => j_if_t rfl (cc_eq_t h19) (j_aload_n rfl rfl (j_gfr rfl hx20 (j_gfr rfl hx21 (j_iload_n rfl rfl (j_dup2 rfl rfl rfl (j_ial rfl hx22 (j_gets (.ref 1) rfl rfl (j_iload_n rfl rfl (j_ial rfl hx23 (j_ior rfl (j_ias rfl hσ24 (j_iload_n rfl rfl (j_iconst (3 : Int32) rfl k32_3 (g))))))))))))))) ?_
              refine J_ite (fun h25 => ?_) (fun h25 => ?_)
              · exact J_some (fun h => j_icmp_f rfl (cc_le_f h25) (j_iconst (0 : Int32) rfl k32_0 (j_iret rfl rfl h)))
              refine J_bind fun x26 hx26 => ?_
              refine J_bind fun w27 hw27 => ?_
              refine J_cl fun _ σ28 hσ28 => ?_
              refine J_bind fun w30 hw30 => ?_
              refine J_cl fun x32 σ31 hσ31 => ?_
              refine q_J.step (fun g => j_icmp_t rfl (cc_le_t h25) (j_aload_n rfl rfl (j_gfr rfl hx26 (j_v0 [.ref x26] [] rfl rfl rfl rfl rfl rfl hw27 (Or.inl rfl) (t_Ta_advance (by omega) hσ28) (j_aload_n rfl rfl (j_v1 [.ref v0] [] rfl rfl rfl rfl rfl rfl hw30 (Or.inl rfl) (t_Sr_isName (by omega) hσ31) (g))))))) ?_
              refine J_ite (fun h33 => ?_) (fun h33 => ?_)
              · refine J_bind fun x34 hx34 => ?_
                refine J_bind fun w35 hw35 => ?_
                refine J_cl fun x37 σ36 hσ36 => ?_
                exact J_some (fun h => j_if_t rfl (cc_eq_t h33) (j_aload_n rfl rfl (j_gfr rfl hx34 (j_iconst (1 : Int32) rfl k32_1 (j_v1 [.ref x34, .int (1 : Int32)] [] rfl rfl rfl rfl rfl rfl hw35 (Or.inl rfl) (t_Ta_fault (by omega) hσ36) (j_iret rfl rfl h))))))
              refine J_bind fun w38 hw38 => ?_
              refine J_cl fun x40 σ39 hσ39 => ?_
              exact J_some (fun h => j_if_f rfl (cc_eq_f h33) (j_aload_n rfl rfl (j_iload_n rfl rfl (j_iload_n rfl rfl (j_v1 [.ref v0, .int v1, .int v2] [] rfl rfl rfl rfl rfl rfl hw38 (Or.inl rfl) (t_Sr_takeName (by omega) hσ39) (j_goto rfl (j_iret rfl rfl h)))))))
            refine J_bind fun x41 hx41 => ?_
            refine J_bind fun w42 hw42 => ?_
            refine J_cl fun x44 σ43 hσ43 => ?_
            exact J_some (fun h => j_if_f rfl (cc_eq_f h19) (j_aload_n rfl rfl (j_gfr rfl hx41 (j_bipush (6 : Int32) rfl kb_6 (j_v1 [.ref x41, .int (6 : Int32)] [] rfl rfl rfl rfl rfl rfl hw42 (Or.inl rfl) (t_Ta_fault (by omega) hσ43) (j_iret rfl rfl h))))))
          refine J_bind fun x45 hx45 => ?_
          refine J_bind fun w46 hw46 => ?_
          refine J_cl fun x48 σ47 hσ47 => ?_
          exact J_some (fun h => j_if_t rfl (cc_ne_t h18) (j_aload_n rfl rfl (j_gfr rfl hx45 (j_bipush (6 : Int32) rfl kb_6 (j_v1 [.ref x45, .int (6 : Int32)] [] rfl rfl rfl rfl rfl rfl hw46 (Or.inl rfl) (t_Ta_fault (by omega) hσ47) (j_iret rfl rfl h))))))
        refine q_J.step (fun g => j_icmp_t rfl (cc_ne_t h11) (j_iconst (0 : Int32) rfl k32_0 (j_istore [some (.ref v0), some (.int v1), some (.int v2), some (.int (1 : Int32)), some (.int (0 : Int32))] rfl rfl (Or.inr rfl) rfl (j_iload_n rfl rfl (g))))) ?_
        refine J_ite (fun h49 => ?_) (fun h49 => ?_)
        · refine q_J.step (fun g => j_if_f rfl (cc_ne_f h49) (j_iload rfl rfl (g))) ?_
          refine J_ite (fun h50 => ?_) (fun h50 => ?_)
          · refine J_bind fun x51 hx51 => ?_
            refine J_bind fun x52 hx52 => ?_
            refine J_bind fun x53 hx53 => ?_
            refine J_bind fun x54 hx54 => ?_
            refine J_bind fun σ55 hσ55 => ?_
            refine q_J.step (fun g => j_if_t rfl (cc_eq_t h50) (j_aload_n rfl rfl (j_gfr rfl hx51 (j_gfr rfl hx52 (j_iload_n rfl rfl (j_dup2 rfl rfl rfl (j_ial rfl hx53 (j_gets (.ref 1) rfl rfl (j_iload_n rfl rfl (j_ial rfl hx54 (j_ior rfl (j_ias rfl hσ55 (j_iload_n rfl rfl (j_iconst (3 : Int32) rfl k32_3 (g))))))))))))))) ?_
            refine J_ite (fun h56 => ?_) (fun h56 => ?_)
            · exact J_some (fun h => j_icmp_f rfl (cc_le_f h56) (j_iconst (0 : Int32) rfl k32_0 (j_iret rfl rfl h)))
            refine J_bind fun x57 hx57 => ?_
            refine J_bind fun w58 hw58 => ?_
            refine J_cl fun _ σ59 hσ59 => ?_
            refine J_bind fun w61 hw61 => ?_
            refine J_cl fun x63 σ62 hσ62 => ?_
            refine q_J.step (fun g => j_icmp_t rfl (cc_le_t h56) (j_aload_n rfl rfl (j_gfr rfl hx57 (j_v0 [.ref x57] [] rfl rfl rfl rfl rfl rfl hw58 (Or.inl rfl) (t_Ta_advance (by omega) hσ59) (j_aload_n rfl rfl (j_v1 [.ref v0] [] rfl rfl rfl rfl rfl rfl hw61 (Or.inl rfl) (t_Sr_isName (by omega) hσ62) (g))))))) ?_
            refine J_ite (fun h64 => ?_) (fun h64 => ?_)
            · refine J_bind fun x65 hx65 => ?_
              refine J_bind fun w66 hw66 => ?_
              refine J_cl fun x68 σ67 hσ67 => ?_
              exact J_some (fun h => j_if_t rfl (cc_eq_t h64) (j_aload_n rfl rfl (j_gfr rfl hx65 (j_iconst (1 : Int32) rfl k32_1 (j_v1 [.ref x65, .int (1 : Int32)] [] rfl rfl rfl rfl rfl rfl hw66 (Or.inl rfl) (t_Ta_fault (by omega) hσ67) (j_iret rfl rfl h))))))
            refine J_bind fun w69 hw69 => ?_
            refine J_cl fun x71 σ70 hσ70 => ?_
            exact J_some (fun h => j_if_f rfl (cc_eq_f h64) (j_aload_n rfl rfl (j_iload_n rfl rfl (j_iload_n rfl rfl (j_v1 [.ref v0, .int v1, .int v2] [] rfl rfl rfl rfl rfl rfl hw69 (Or.inl rfl) (t_Sr_takeName (by omega) hσ70) (j_goto rfl (j_iret rfl rfl h)))))))
          refine J_bind fun x72 hx72 => ?_
          refine J_bind fun w73 hw73 => ?_
          refine J_cl fun x75 σ74 hσ74 => ?_
          exact J_some (fun h => j_if_f rfl (cc_eq_f h50) (j_aload_n rfl rfl (j_gfr rfl hx72 (j_bipush (6 : Int32) rfl kb_6 (j_v1 [.ref x72, .int (6 : Int32)] [] rfl rfl rfl rfl rfl rfl hw73 (Or.inl rfl) (t_Ta_fault (by omega) hσ74) (j_iret rfl rfl h))))))
        refine J_bind fun x76 hx76 => ?_
        refine J_bind fun w77 hw77 => ?_
        refine J_cl fun x79 σ78 hσ78 => ?_
        exact J_some (fun h => j_if_t rfl (cc_ne_t h49) (j_aload_n rfl rfl (j_gfr rfl hx76 (j_bipush (6 : Int32) rfl kb_6 (j_v1 [.ref x76, .int (6 : Int32)] [] rfl rfl rfl rfl rfl rfl hw77 (Or.inl rfl) (t_Ta_fault (by omega) hσ78) (j_iret rfl rfl h))))))
      refine q_J.step (fun g => j_icmp_f rfl (cc_eq_f h10) (j_iload_n rfl rfl (j_iconst (3 : Int32) rfl k32_3 (g)))) ?_
      refine J_sq (fun (t81 : Int32) (σ82 : q_H) => q_G (q_rf fo) d m_Sr_parseTag o σ' 54 [some (.ref v0), some (.int v1), some (.int v2), none, none] [.int t81] σ82) ?_ (fun t81 σ82 => ?_)
      · refine J_ite (fun h80 => ?_) (fun h80 => ?_)
        · exact J_some (fun h => j_icmp_f rfl (cc_ne_f h80) (j_iconst (1 : Int32) rfl k32_1 (j_goto rfl (h))))
        exact J_some (fun h => j_icmp_t rfl (cc_ne_t h80) (j_iconst (0 : Int32) rfl k32_0 (h)))
      refine q_J.step (fun g => j_istore_n [some (.ref v0), some (.int v1), some (.int v2), some (.int t81), none] rfl rfl (Or.inr rfl) rfl (j_iload_n rfl rfl (j_iconst (4 : Int32) rfl k32_4 (g)))) ?_
      refine J_ite (fun h83 => ?_) (fun h83 => ?_)
      · refine J_bind fun x84 hx84 => ?_
        refine J_bind fun x85 hx85 => ?_
        refine J_bind fun x86 hx86 => ?_
        refine q_J.step (fun g => j_icmp_f rfl (cc_ne_f h83) (j_aload_n rfl rfl (j_gfr rfl hx84 (j_gfr rfl hx85 (j_iload_n rfl rfl (j_ial rfl hx86 (j_sipush (128 : Int32) rfl ks_128 (j_iand rfl (g))))))))) ?_
        refine J_sq (fun (t88 : Int32) (σ89 : q_H) => q_G (q_rf fo) d m_Sr_parseTag o σ' 81 [some (.ref v0), some (.int v1), some (.int v2), some (.int t81), none] [.int t88] σ89) ?_ (fun t88 σ89 => ?_)
        · refine J_ite (fun h87 => ?_) (fun h87 => ?_)
          · exact J_some (fun h => j_if_f rfl (cc_ne_f h87) (j_iconst (1 : Int32) rfl k32_1 (j_goto rfl (h))))
          exact J_some (fun h => j_if_t rfl (cc_ne_t h87) (j_iconst (0 : Int32) rfl k32_0 (h)))
        refine q_J.step (fun g => j_istore [some (.ref v0), some (.int v1), some (.int v2), some (.int t81), some (.int t88)] rfl rfl (Or.inr rfl) rfl (j_iload_n rfl rfl (g))) ?_
        refine J_ite (fun h90 => ?_) (fun h90 => ?_)
        · refine q_J.step (fun g => j_if_f rfl (cc_ne_f h90) (j_iload rfl rfl (g))) ?_
          refine J_ite (fun h91 => ?_) (fun h91 => ?_)
          · refine J_bind fun x92 hx92 => ?_
            refine J_bind fun x93 hx93 => ?_
            refine J_bind fun x94 hx94 => ?_
            refine J_bind fun x95 hx95 => ?_
            refine J_bind fun σ96 hσ96 => ?_
            refine q_J.step (fun g => j_if_t rfl (cc_eq_t h91) (j_aload_n rfl rfl (j_gfr rfl hx92 (j_gfr rfl hx93 (j_iload_n rfl rfl (j_dup2 rfl rfl rfl (j_ial rfl hx94 (j_gets (.ref 1) rfl rfl (j_iload_n rfl rfl (j_ial rfl hx95 (j_ior rfl (j_ias rfl hσ96 (j_iload_n rfl rfl (j_iconst (3 : Int32) rfl k32_3 (g))))))))))))))) ?_
            refine J_ite (fun h97 => ?_) (fun h97 => ?_)
            · exact J_some (fun h => j_icmp_f rfl (cc_le_f h97) (j_iconst (0 : Int32) rfl k32_0 (j_iret rfl rfl h)))
            refine J_bind fun x98 hx98 => ?_
            refine J_bind fun w99 hw99 => ?_
            refine J_cl fun _ σ100 hσ100 => ?_
            refine J_bind fun w102 hw102 => ?_
            refine J_cl fun x104 σ103 hσ103 => ?_
            refine q_J.step (fun g => j_icmp_t rfl (cc_le_t h97) (j_aload_n rfl rfl (j_gfr rfl hx98 (j_v0 [.ref x98] [] rfl rfl rfl rfl rfl rfl hw99 (Or.inl rfl) (t_Ta_advance (by omega) hσ100) (j_aload_n rfl rfl (j_v1 [.ref v0] [] rfl rfl rfl rfl rfl rfl hw102 (Or.inl rfl) (t_Sr_isName (by omega) hσ103) (g))))))) ?_
            refine J_ite (fun h105 => ?_) (fun h105 => ?_)
            · refine J_bind fun x106 hx106 => ?_
              refine J_bind fun w107 hw107 => ?_
              refine J_cl fun x109 σ108 hσ108 => ?_
              exact J_some (fun h => j_if_t rfl (cc_eq_t h105) (j_aload_n rfl rfl (j_gfr rfl hx106 (j_iconst (1 : Int32) rfl k32_1 (j_v1 [.ref x106, .int (1 : Int32)] [] rfl rfl rfl rfl rfl rfl hw107 (Or.inl rfl) (t_Ta_fault (by omega) hσ108) (j_iret rfl rfl h))))))
            refine J_bind fun w110 hw110 => ?_
            refine J_cl fun x112 σ111 hσ111 => ?_
            exact J_some (fun h => j_if_f rfl (cc_eq_f h105) (j_aload_n rfl rfl (j_iload_n rfl rfl (j_iload_n rfl rfl (j_v1 [.ref v0, .int v1, .int v2] [] rfl rfl rfl rfl rfl rfl hw110 (Or.inl rfl) (t_Sr_takeName (by omega) hσ111) (j_goto rfl (j_iret rfl rfl h)))))))
          refine J_bind fun x113 hx113 => ?_
          refine J_bind fun w114 hw114 => ?_
          refine J_cl fun x116 σ115 hσ115 => ?_
          exact J_some (fun h => j_if_f rfl (cc_eq_f h91) (j_aload_n rfl rfl (j_gfr rfl hx113 (j_bipush (6 : Int32) rfl kb_6 (j_v1 [.ref x113, .int (6 : Int32)] [] rfl rfl rfl rfl rfl rfl hw114 (Or.inl rfl) (t_Ta_fault (by omega) hσ115) (j_iret rfl rfl h))))))
        refine J_bind fun x117 hx117 => ?_
        refine J_bind fun w118 hw118 => ?_
        refine J_cl fun x120 σ119 hσ119 => ?_
        exact J_some (fun h => j_if_t rfl (cc_ne_t h90) (j_aload_n rfl rfl (j_gfr rfl hx117 (j_bipush (6 : Int32) rfl kb_6 (j_v1 [.ref x117, .int (6 : Int32)] [] rfl rfl rfl rfl rfl rfl hw118 (Or.inl rfl) (t_Ta_fault (by omega) hσ119) (j_iret rfl rfl h))))))
      refine q_J.step (fun g => j_icmp_t rfl (cc_ne_t h83) (j_iconst (0 : Int32) rfl k32_0 (j_istore [some (.ref v0), some (.int v1), some (.int v2), some (.int t81), some (.int (0 : Int32))] rfl rfl (Or.inr rfl) rfl (j_iload_n rfl rfl (g))))) ?_
      refine J_ite (fun h121 => ?_) (fun h121 => ?_)
      · refine q_J.step (fun g => j_if_f rfl (cc_ne_f h121) (j_iload rfl rfl (g))) ?_
        refine J_ite (fun h122 => ?_) (fun h122 => ?_)
        · refine J_bind fun x123 hx123 => ?_
          refine J_bind fun x124 hx124 => ?_
          refine J_bind fun x125 hx125 => ?_
          refine J_bind fun x126 hx126 => ?_
          refine J_bind fun σ127 hσ127 => ?_
          refine q_J.step (fun g => j_if_t rfl (cc_eq_t h122) (j_aload_n rfl rfl (j_gfr rfl hx123 (j_gfr rfl hx124 (j_iload_n rfl rfl (j_dup2 rfl rfl rfl (j_ial rfl hx125 (j_gets (.ref 1) rfl rfl (j_iload_n rfl rfl (j_ial rfl hx126 (j_ior rfl (j_ias rfl hσ127 (j_iload_n rfl rfl (j_iconst (3 : Int32) rfl k32_3 (g))))))))))))))) ?_
          refine J_ite (fun h128 => ?_) (fun h128 => ?_)
          · exact J_some (fun h => j_icmp_f rfl (cc_le_f h128) (j_iconst (0 : Int32) rfl k32_0 (j_iret rfl rfl h)))
          refine J_bind fun x129 hx129 => ?_
          refine J_bind fun w130 hw130 => ?_
          refine J_cl fun _ σ131 hσ131 => ?_
          refine J_bind fun w133 hw133 => ?_
          refine J_cl fun x135 σ134 hσ134 => ?_
          refine q_J.step (fun g => j_icmp_t rfl (cc_le_t h128) (j_aload_n rfl rfl (j_gfr rfl hx129 (j_v0 [.ref x129] [] rfl rfl rfl rfl rfl rfl hw130 (Or.inl rfl) (t_Ta_advance (by omega) hσ131) (j_aload_n rfl rfl (j_v1 [.ref v0] [] rfl rfl rfl rfl rfl rfl hw133 (Or.inl rfl) (t_Sr_isName (by omega) hσ134) (g))))))) ?_
          refine J_ite (fun h136 => ?_) (fun h136 => ?_)
          · refine J_bind fun x137 hx137 => ?_
            refine J_bind fun w138 hw138 => ?_
            refine J_cl fun x140 σ139 hσ139 => ?_
            exact J_some (fun h => j_if_t rfl (cc_eq_t h136) (j_aload_n rfl rfl (j_gfr rfl hx137 (j_iconst (1 : Int32) rfl k32_1 (j_v1 [.ref x137, .int (1 : Int32)] [] rfl rfl rfl rfl rfl rfl hw138 (Or.inl rfl) (t_Ta_fault (by omega) hσ139) (j_iret rfl rfl h))))))
          refine J_bind fun w141 hw141 => ?_
          refine J_cl fun x143 σ142 hσ142 => ?_
          exact J_some (fun h => j_if_f rfl (cc_eq_f h136) (j_aload_n rfl rfl (j_iload_n rfl rfl (j_iload_n rfl rfl (j_v1 [.ref v0, .int v1, .int v2] [] rfl rfl rfl rfl rfl rfl hw141 (Or.inl rfl) (t_Sr_takeName (by omega) hσ142) (j_goto rfl (j_iret rfl rfl h)))))))
        refine J_bind fun x144 hx144 => ?_
        refine J_bind fun w145 hw145 => ?_
        refine J_cl fun x147 σ146 hσ146 => ?_
        exact J_some (fun h => j_if_f rfl (cc_eq_f h122) (j_aload_n rfl rfl (j_gfr rfl hx144 (j_bipush (6 : Int32) rfl kb_6 (j_v1 [.ref x144, .int (6 : Int32)] [] rfl rfl rfl rfl rfl rfl hw145 (Or.inl rfl) (t_Ta_fault (by omega) hσ146) (j_iret rfl rfl h))))))
      refine J_bind fun x148 hx148 => ?_
      refine J_bind fun w149 hw149 => ?_
      refine J_cl fun x151 σ150 hσ150 => ?_
      exact J_some (fun h => j_if_t rfl (cc_ne_t h121) (j_aload_n rfl rfl (j_gfr rfl hx148 (j_bipush (6 : Int32) rfl kb_6 (j_v1 [.ref x148, .int (6 : Int32)] [] rfl rfl rfl rfl rfl rfl hw149 (Or.inl rfl) (t_Ta_fault (by omega) hσ150) (j_iret rfl rfl h))))))
    refine q_J.step (fun g => j_if_t rfl (cc_ne_t h9) (j_iconst (0 : Int32) rfl k32_0 (j_istore_n [some (.ref v0), some (.int v1), some (.int v2), some (.int (0 : Int32)), none] rfl rfl (Or.inr rfl) rfl (j_iload_n rfl rfl (j_iconst (4 : Int32) rfl k32_4 (g)))))) ?_
    refine J_ite (fun h152 => ?_) (fun h152 => ?_)
    · refine J_bind fun x153 hx153 => ?_
      refine J_bind fun x154 hx154 => ?_
      refine J_bind fun x155 hx155 => ?_
      refine q_J.step (fun g => j_icmp_f rfl (cc_ne_f h152) (j_aload_n rfl rfl (j_gfr rfl hx153 (j_gfr rfl hx154 (j_iload_n rfl rfl (j_ial rfl hx155 (j_sipush (128 : Int32) rfl ks_128 (j_iand rfl (g))))))))) ?_
      refine J_sq (fun (t157 : Int32) (σ158 : q_H) => q_G (q_rf fo) d m_Sr_parseTag o σ' 81 [some (.ref v0), some (.int v1), some (.int v2), some (.int (0 : Int32)), none] [.int t157] σ158) ?_ (fun t157 σ158 => ?_)
      · refine J_ite (fun h156 => ?_) (fun h156 => ?_)
        · exact J_some (fun h => j_if_f rfl (cc_ne_f h156) (j_iconst (1 : Int32) rfl k32_1 (j_goto rfl (h))))
        exact J_some (fun h => j_if_t rfl (cc_ne_t h156) (j_iconst (0 : Int32) rfl k32_0 (h)))
      refine q_J.step (fun g => j_istore [some (.ref v0), some (.int v1), some (.int v2), some (.int (0 : Int32)), some (.int t157)] rfl rfl (Or.inr rfl) rfl (j_iload_n rfl rfl (g))) ?_
      refine J_ite (fun h159 => ?_) (fun h159 => ?_)
      · refine q_J.step (fun g => j_if_f rfl (cc_ne_f h159) (j_iload rfl rfl (g))) ?_
        refine J_ite (fun h160 => ?_) (fun h160 => ?_)
        · refine J_bind fun x161 hx161 => ?_
          refine J_bind fun x162 hx162 => ?_
          refine J_bind fun x163 hx163 => ?_
          refine J_bind fun x164 hx164 => ?_
          refine J_bind fun σ165 hσ165 => ?_
          refine q_J.step (fun g => j_if_t rfl (cc_eq_t h160) (j_aload_n rfl rfl (j_gfr rfl hx161 (j_gfr rfl hx162 (j_iload_n rfl rfl (j_dup2 rfl rfl rfl (j_ial rfl hx163 (j_gets (.ref 1) rfl rfl (j_iload_n rfl rfl (j_ial rfl hx164 (j_ior rfl (j_ias rfl hσ165 (j_iload_n rfl rfl (j_iconst (3 : Int32) rfl k32_3 (g))))))))))))))) ?_
          refine J_ite (fun h166 => ?_) (fun h166 => ?_)
          · exact J_some (fun h => j_icmp_f rfl (cc_le_f h166) (j_iconst (0 : Int32) rfl k32_0 (j_iret rfl rfl h)))
          refine J_bind fun x167 hx167 => ?_
          refine J_bind fun w168 hw168 => ?_
          refine J_cl fun _ σ169 hσ169 => ?_
          refine J_bind fun w171 hw171 => ?_
          refine J_cl fun x173 σ172 hσ172 => ?_
          refine q_J.step (fun g => j_icmp_t rfl (cc_le_t h166) (j_aload_n rfl rfl (j_gfr rfl hx167 (j_v0 [.ref x167] [] rfl rfl rfl rfl rfl rfl hw168 (Or.inl rfl) (t_Ta_advance (by omega) hσ169) (j_aload_n rfl rfl (j_v1 [.ref v0] [] rfl rfl rfl rfl rfl rfl hw171 (Or.inl rfl) (t_Sr_isName (by omega) hσ172) (g))))))) ?_
          refine J_ite (fun h174 => ?_) (fun h174 => ?_)
          · refine J_bind fun x175 hx175 => ?_
            refine J_bind fun w176 hw176 => ?_
            refine J_cl fun x178 σ177 hσ177 => ?_
            exact J_some (fun h => j_if_t rfl (cc_eq_t h174) (j_aload_n rfl rfl (j_gfr rfl hx175 (j_iconst (1 : Int32) rfl k32_1 (j_v1 [.ref x175, .int (1 : Int32)] [] rfl rfl rfl rfl rfl rfl hw176 (Or.inl rfl) (t_Ta_fault (by omega) hσ177) (j_iret rfl rfl h))))))
          refine J_bind fun w179 hw179 => ?_
          refine J_cl fun x181 σ180 hσ180 => ?_
          exact J_some (fun h => j_if_f rfl (cc_eq_f h174) (j_aload_n rfl rfl (j_iload_n rfl rfl (j_iload_n rfl rfl (j_v1 [.ref v0, .int v1, .int v2] [] rfl rfl rfl rfl rfl rfl hw179 (Or.inl rfl) (t_Sr_takeName (by omega) hσ180) (j_goto rfl (j_iret rfl rfl h)))))))
        refine J_bind fun x182 hx182 => ?_
        refine J_bind fun w183 hw183 => ?_
        refine J_cl fun x185 σ184 hσ184 => ?_
        exact J_some (fun h => j_if_f rfl (cc_eq_f h160) (j_aload_n rfl rfl (j_gfr rfl hx182 (j_bipush (6 : Int32) rfl kb_6 (j_v1 [.ref x182, .int (6 : Int32)] [] rfl rfl rfl rfl rfl rfl hw183 (Or.inl rfl) (t_Ta_fault (by omega) hσ184) (j_iret rfl rfl h))))))
      refine J_bind fun x186 hx186 => ?_
      refine J_bind fun w187 hw187 => ?_
      refine J_cl fun x189 σ188 hσ188 => ?_
      exact J_some (fun h => j_if_t rfl (cc_ne_t h159) (j_aload_n rfl rfl (j_gfr rfl hx186 (j_bipush (6 : Int32) rfl kb_6 (j_v1 [.ref x186, .int (6 : Int32)] [] rfl rfl rfl rfl rfl rfl hw187 (Or.inl rfl) (t_Ta_fault (by omega) hσ188) (j_iret rfl rfl h))))))
    refine q_J.step (fun g => j_icmp_t rfl (cc_ne_t h152) (j_iconst (0 : Int32) rfl k32_0 (j_istore [some (.ref v0), some (.int v1), some (.int v2), some (.int (0 : Int32)), some (.int (0 : Int32))] rfl rfl (Or.inr rfl) rfl (j_iload_n rfl rfl (g))))) ?_
    refine J_ite (fun h190 => ?_) (fun h190 => ?_)
    · refine q_J.step (fun g => j_if_f rfl (cc_ne_f h190) (j_iload rfl rfl (g))) ?_
      refine J_ite (fun h191 => ?_) (fun h191 => ?_)
      · refine J_bind fun x192 hx192 => ?_
        refine J_bind fun x193 hx193 => ?_
        refine J_bind fun x194 hx194 => ?_
        refine J_bind fun x195 hx195 => ?_
        refine J_bind fun σ196 hσ196 => ?_
        refine q_J.step (fun g => j_if_t rfl (cc_eq_t h191) (j_aload_n rfl rfl (j_gfr rfl hx192 (j_gfr rfl hx193 (j_iload_n rfl rfl (j_dup2 rfl rfl rfl (j_ial rfl hx194 (j_gets (.ref 1) rfl rfl (j_iload_n rfl rfl (j_ial rfl hx195 (j_ior rfl (j_ias rfl hσ196 (j_iload_n rfl rfl (j_iconst (3 : Int32) rfl k32_3 (g))))))))))))))) ?_
        refine J_ite (fun h197 => ?_) (fun h197 => ?_)
        · exact J_some (fun h => j_icmp_f rfl (cc_le_f h197) (j_iconst (0 : Int32) rfl k32_0 (j_iret rfl rfl h)))
        refine J_bind fun x198 hx198 => ?_
        refine J_bind fun w199 hw199 => ?_
        refine J_cl fun _ σ200 hσ200 => ?_
        refine J_bind fun w202 hw202 => ?_
        refine J_cl fun x204 σ203 hσ203 => ?_
        refine q_J.step (fun g => j_icmp_t rfl (cc_le_t h197) (j_aload_n rfl rfl (j_gfr rfl hx198 (j_v0 [.ref x198] [] rfl rfl rfl rfl rfl rfl hw199 (Or.inl rfl) (t_Ta_advance (by omega) hσ200) (j_aload_n rfl rfl (j_v1 [.ref v0] [] rfl rfl rfl rfl rfl rfl hw202 (Or.inl rfl) (t_Sr_isName (by omega) hσ203) (g))))))) ?_
        refine J_ite (fun h205 => ?_) (fun h205 => ?_)
        · refine J_bind fun x206 hx206 => ?_
          refine J_bind fun w207 hw207 => ?_
          refine J_cl fun x209 σ208 hσ208 => ?_
          exact J_some (fun h => j_if_t rfl (cc_eq_t h205) (j_aload_n rfl rfl (j_gfr rfl hx206 (j_iconst (1 : Int32) rfl k32_1 (j_v1 [.ref x206, .int (1 : Int32)] [] rfl rfl rfl rfl rfl rfl hw207 (Or.inl rfl) (t_Ta_fault (by omega) hσ208) (j_iret rfl rfl h))))))
        refine J_bind fun w210 hw210 => ?_
        refine J_cl fun x212 σ211 hσ211 => ?_
        exact J_some (fun h => j_if_f rfl (cc_eq_f h205) (j_aload_n rfl rfl (j_iload_n rfl rfl (j_iload_n rfl rfl (j_v1 [.ref v0, .int v1, .int v2] [] rfl rfl rfl rfl rfl rfl hw210 (Or.inl rfl) (t_Sr_takeName (by omega) hσ211) (j_goto rfl (j_iret rfl rfl h)))))))
      refine J_bind fun x213 hx213 => ?_
      refine J_bind fun w214 hw214 => ?_
      refine J_cl fun x216 σ215 hσ215 => ?_
      exact J_some (fun h => j_if_f rfl (cc_eq_f h191) (j_aload_n rfl rfl (j_gfr rfl hx213 (j_bipush (6 : Int32) rfl kb_6 (j_v1 [.ref x213, .int (6 : Int32)] [] rfl rfl rfl rfl rfl rfl hw214 (Or.inl rfl) (t_Ta_fault (by omega) hσ215) (j_iret rfl rfl h))))))
    refine J_bind fun x217 hx217 => ?_
    refine J_bind fun w218 hw218 => ?_
    refine J_cl fun x220 σ219 hσ219 => ?_
    exact J_some (fun h => j_if_t rfl (cc_ne_t h190) (j_aload_n rfl rfl (j_gfr rfl hx217 (j_bipush (6 : Int32) rfl kb_6 (j_v1 [.ref x217, .int (6 : Int32)] [] rfl rfl rfl rfl rfl rfl hw218 (Or.inl rfl) (t_Ta_fault (by omega) hσ219) (j_iret rfl rfl h))))))
  refine J_bind fun x221 hx221 => ?_
  refine J_bind fun w222 hw222 => ?_
  refine J_cl fun x224 σ223 hσ223 => ?_
  exact J_some (fun h => j_if_f rfl (cc_eq_f h5) (j_aload_n rfl rfl (j_gfr rfl hx221 (j_iconst (3 : Int32) rfl k32_3 (j_v1 [.ref x221, .int (3 : Int32)] [] rfl rfl rfl rfl rfl rfl hw222 (Or.inl rfl) (t_Ta_fault (by omega) hσ223) (j_iret rfl rfl h))))))
theorem t_Sr_parseTag {fo : Option Nat} {d : Nat} (hd : 6 ≤ d) {v0 : Nat} {v1 : Int32} {v2 : Int32} {σ σ1 : q_H} {r : Int32} (h : f_Sr_parseTag v0 v1 v2 σ = some (r, σ1)) : q_Rel (q_rf fo) q_Ms d 77 [.ref v0, .int v1, .int v2] σ (.inl (some (.int r))) σ1 := by
  obtain ⟨d, rfl⟩ : ∃ d1, d = d1 + 1 := ⟨d - 1, by omega⟩
  exact q_Rel.of rfl rfl (b_Sr_parseTag hd _ _ _ σ _ _ h ⟨rfl, rfl⟩)

def f_Rs_init_L128 (v0 : Nat) : Nat → Int32 → q_H → Option ((Unit) × q_H)
  | 0, _, _ => none
  | n + 1, v1, σ => if v1 < (4 : Int32) then ((q_gr (q_gf σ 0 v0 4)).bind fun x51 => q_ma σ 2 [.null, .null, .null, .null, .null, .null] fun σ52 a53 => q_sq (f_Sf_init a53 σ52) fun (_ : Unit) σ54 => (q_ob σ54 2 a53).bind fun w57 => (q_sa σ54 26 x51 v1 (.ref a53)).bind fun σ56 => f_Rs_init_L128 v0 n (v1 + (1 : Int32)) σ56) else (some ((), σ))
set_option maxRecDepth 100000 in
theorem l_Rs_init_L128 {fo : Option Nat} {d : Nat} (hd : 6 ≤ d + 1) {o : q_O} {σ' : q_H} {E : (Unit) → q_H → Prop} (v0 : Nat) (hX : ∀ (t : Unit) σ1, E (t) σ1 → q_G (q_rf fo) d m_Rs_init o σ' 152 [some (.ref v0), none] [] σ1)  : ∀ (n : Nat) (v1 : Int32) (σ : q_H), q_J E (f_Rs_init_L128 v0 n v1 σ) (q_G (q_rf fo) d m_Rs_init o σ' 128 [some (.ref v0), some (.int v1)] [] σ)
  | 0, v1, σ => J_none
  | n + 1, v1, σ => by
    unfold f_Rs_init_L128
    refine q_J.step (fun g => j_iload_n rfl rfl (j_iconst (4 : Int32) rfl k32_4 (g))) ?_
    refine J_ite (fun h50 => ?_) (fun h50 => ?_)
    · refine J_bind fun x51 hx51 => ?_
      refine J_ma fun σ52 a53 hσ52 ha53 => ?_
      refine J_cl fun _ σ54 hσ54 => ?_
      refine J_bind fun w57 hw57 => ?_
      refine J_bind fun σ56 hσ56 => ?_
      exact q_J.step (fun g => j_icmp_f rfl (cc_ge_f h50) (j_aload_n rfl rfl (j_gfr rfl hx51 (j_iload_n rfl rfl (j_newk2 [.null, .null, .null, .null, .null, .null] rfl rfl rfl hσ52 ha53 (j_dup rfl rfl (j_i0 [.ref a53] [.ref a53, .int v1, .ref x51] rfl rfl rfl rfl rfl rfl (t_Sf_init (by omega) hσ54) (j_aas rfl (Or.inr (Or.inl ⟨rfl, rfl⟩)) (Or.inr ⟨_, _, rfl, q_ob_some.mp hw57⟩) hσ56 (j_iinc [some (.ref v0), some (.int (v1 + (1 : Int32)))] (v1 + (1 : Int32)) rfl rfl (by rw [k32_1]) (Or.inr rfl) rfl (j_goto rfl (g))))))))))) (l_Rs_init_L128 hd v0 hX n (v1 + (1 : Int32)) σ56)
    exact J_some (fun h => j_icmp_t rfl (cc_ge_t h50) (j_weak (l := [some (.ref v0), none]) (And.intro (Or.inr rfl) (And.intro (Or.inl rfl) True.intro)) (hX _ _ h)))

def f_Rs_init_L154 (v0 : Nat) : Nat → Int32 → q_H → Option ((Unit) × q_H)
  | 0, _, _ => none
  | n + 1, v1, σ => if v1 < (4 : Int32) then ((q_gr (q_gf σ 0 v0 8)).bind fun x61 => q_ma σ 6 [.null, .int 0, .int 0, .null] fun σ62 a63 => q_ma σ62 20 (List.replicate 0 (.int 0)) fun σ64 a65 => q_sq (f_La_init a63 a65 (0 : Int32) (0 : Int32) σ64) fun (_ : Unit) σ66 => (q_ob σ66 6 a63).bind fun w69 => (q_sa σ66 27 x61 v1 (.ref a63)).bind fun σ68 => f_Rs_init_L154 v0 n (v1 + (1 : Int32)) σ68) else (some ((), σ))
set_option maxRecDepth 100000 in
theorem l_Rs_init_L154 {fo : Option Nat} {d : Nat} (hd : 6 ≤ d + 1) {o : q_O} {σ' : q_H} {E : (Unit) → q_H → Prop} (v0 : Nat) (hX : ∀ (t : Unit) σ1, E (t) σ1 → q_G (q_rf fo) d m_Rs_init o σ' 183 [none, none] [] σ1)  : ∀ (n : Nat) (v1 : Int32) (σ : q_H), q_J E (f_Rs_init_L154 v0 n v1 σ) (q_G (q_rf fo) d m_Rs_init o σ' 154 [some (.ref v0), some (.int v1)] [] σ)
  | 0, v1, σ => J_none
  | n + 1, v1, σ => by
    unfold f_Rs_init_L154
    refine q_J.step (fun g => j_iload_n rfl rfl (j_iconst (4 : Int32) rfl k32_4 (g))) ?_
    refine J_ite (fun h60 => ?_) (fun h60 => ?_)
    · refine J_bind fun x61 hx61 => ?_
      refine J_ma fun σ62 a63 hσ62 ha63 => ?_
      refine J_ma fun σ64 a65 hσ64 ha65 => ?_
      refine J_cl fun _ σ66 hσ66 => ?_
      refine J_bind fun w69 hw69 => ?_
      refine J_bind fun σ68 hσ68 => ?_
      exact q_J.step (fun g => j_icmp_f rfl (cc_ge_f h60) (j_aload_n rfl rfl (j_gfr rfl hx61 (j_iload_n rfl rfl (j_newk2 [.null, .int 0, .int 0, .null] rfl rfl rfl hσ62 ha63 (j_dup rfl rfl (j_iconst (0 : Int32) rfl k32_0 (j_newk 0 (.int 0) rfl rfl rfl (by decide) (by decide) hσ64 ha65 (j_iconst (0 : Int32) rfl k32_0 (j_iconst (0 : Int32) rfl k32_0 (j_i0 [.ref a63, .ref a65, .int (0 : Int32), .int (0 : Int32)] [.ref a63, .int v1, .ref x61] rfl rfl rfl rfl rfl rfl (t_La_init (by omega) hσ66) (j_aas rfl (Or.inr (Or.inr ⟨rfl, rfl⟩)) (Or.inr ⟨_, _, rfl, q_ob_some.mp hw69⟩) hσ68 (j_iinc [some (.ref v0), some (.int (v1 + (1 : Int32)))] (v1 + (1 : Int32)) rfl rfl (by rw [k32_1]) (Or.inr rfl) rfl (j_goto rfl (g))))))))))))))) (l_Rs_init_L154 hd v0 hX n (v1 + (1 : Int32)) σ68)
    exact J_some (fun h => j_icmp_t rfl (cc_ge_t h60) (j_weak (l := [none, none]) (And.intro (Or.inl rfl) (And.intro (Or.inl rfl) True.intro)) (hX _ _ h)))

def f_Rs_init (v0 : Nat) (σ : q_H) : Option ((Unit) × q_H) := q_ma σ 1 [.null, .int 0, .int 0, .int 0, .int 0, .long 0] fun σ1 a2 => q_sq (f_Ta_init a2 σ1) fun (_ : Unit) σ3 => (q_sf σ3 0 v0 0 (.ref a2)).bind fun σ5 => q_sq (f_Ta_codesOf 2 σ5) fun x7 σ6 => (q_sf σ6 0 v0 1 (.ref x7)).bind fun σ8 => q_sq (f_Ta_codesOf 3 σ8) fun x10 σ9 => (q_sf σ9 0 v0 2 (.ref x10)).bind fun σ11 => q_ma σ11 2 [.null, .null, .null, .null, .null, .null] fun σ12 a13 => q_sq (f_Sf_init a13 σ12) fun (_ : Unit) σ14 => (q_sf σ14 0 v0 3 (.ref a13)).bind fun σ16 => q_ma σ16 26 (List.replicate 4 (.null)) fun σ17 a18 => (q_sf σ17 0 v0 4 (.ref a18)).bind fun σ19 => q_ma σ19 22 (List.replicate 4 (.int 0)) fun σ20 a21 => (q_sf σ20 0 v0 5 (.ref a21)).bind fun σ22 => q_ma σ22 3 [.int 0, .null, .null, .null, .null] fun σ23 a24 => q_sq (f_Ho_init a24 σ23) fun (_ : Unit) σ25 => (q_sf σ25 0 v0 6 (.ref a24)).bind fun σ27 => q_ma σ27 4 [.null, .null, .int 0] fun σ28 a29 => q_sq (f_Li_init a29 σ28) fun (_ : Unit) σ30 => (q_sf σ30 0 v0 7 (.ref a29)).bind fun σ32 => q_ma σ32 27 (List.replicate 4 (.null)) fun σ33 a34 => (q_sf σ33 0 v0 8 (.ref a34)).bind fun σ35 => q_ma σ35 20 (List.replicate 13 (.int 0)) fun σ36 a37 => (q_sf σ36 0 v0 9 (.ref a37)).bind fun σ38 => q_ma σ38 5 [.int 0, .int 0, .long 0, .int 0, .null, .null, .null, .null] fun σ39 a40 => q_sq (f_Wo_init a40 σ39) fun (_ : Unit) σ41 => (q_sf σ41 0 v0 10 (.ref a40)).bind fun σ43 => q_ma σ43 20 (List.replicate 225 (.int 0)) fun σ44 a45 => (q_sf σ44 0 v0 11 (.ref a45)).bind fun σ46 => q_ma σ46 20 (List.replicate 225 (.int 0)) fun σ47 a48 => (q_sf σ47 0 v0 12 (.ref a48)).bind fun σ49 => q_sq (f_Rs_init_L128 v0 q_FU (0 : Int32) σ49) fun (t58 : Unit) σ59 => q_sq (f_Rs_init_L154 v0 q_FU (0 : Int32) σ59) fun (t70 : Unit) σ71 => some ((), σ71)
set_option maxRecDepth 100000 in
theorem b_Rs_init {fo : Option Nat} {d : Nat} (hd : 6 ≤ d + 1) {o : q_O} {σ' : q_H} (v0 : Nat) (σ : q_H) : q_J (fun (r : Unit) (σ1 : q_H) => o = .inl none ∧ σ' = σ1) (f_Rs_init v0 σ) (q_G (q_rf fo) d m_Rs_init o σ' 0 [some (.ref v0), none] [] σ) := by
  unfold f_Rs_init
  refine J_ma fun σ1 a2 hσ1 ha2 => ?_
  refine J_cl fun _ σ3 hσ3 => ?_
  refine J_bind fun σ5 hσ5 => ?_
  refine J_cl fun x7 σ6 hσ6 => ?_
  refine J_bind fun σ8 hσ8 => ?_
  refine J_cl fun x10 σ9 hσ9 => ?_
  refine J_bind fun σ11 hσ11 => ?_
  refine J_ma fun σ12 a13 hσ12 ha13 => ?_
  refine J_cl fun _ σ14 hσ14 => ?_
  refine J_bind fun σ16 hσ16 => ?_
  refine J_ma fun σ17 a18 hσ17 ha18 => ?_
  refine J_bind fun σ19 hσ19 => ?_
  refine J_ma fun σ20 a21 hσ20 ha21 => ?_
  refine J_bind fun σ22 hσ22 => ?_
  refine J_ma fun σ23 a24 hσ23 ha24 => ?_
  refine J_cl fun _ σ25 hσ25 => ?_
  refine J_bind fun σ27 hσ27 => ?_
  refine J_ma fun σ28 a29 hσ28 ha29 => ?_
  refine J_cl fun _ σ30 hσ30 => ?_
  refine J_bind fun σ32 hσ32 => ?_
  refine J_ma fun σ33 a34 hσ33 ha34 => ?_
  refine J_bind fun σ35 hσ35 => ?_
  refine J_ma fun σ36 a37 hσ36 ha37 => ?_
  refine J_bind fun σ38 hσ38 => ?_
  refine J_ma fun σ39 a40 hσ39 ha40 => ?_
  refine J_cl fun _ σ41 hσ41 => ?_
  refine J_bind fun σ43 hσ43 => ?_
  refine J_ma fun σ44 a45 hσ44 ha45 => ?_
  refine J_bind fun σ46 hσ46 => ?_
  refine J_ma fun σ47 a48 hσ47 ha48 => ?_
  refine J_bind fun σ49 hσ49 => ?_
  refine J_sq (fun (t58 : Unit) (σ59 : q_H) => q_G (q_rf fo) d m_Rs_init o σ' 152 [some (.ref v0), none] [] σ59) (q_J.step (fun g => j_aload_n rfl rfl (j_obj rfl rfl (j_aload_n rfl rfl (j_newk2 [.null, .int 0, .int 0, .int 0, .int 0, .long 0] rfl rfl rfl hσ1 ha2 (j_dup rfl rfl (j_i0 [.ref a2] [.ref a2, .ref v0] rfl rfl rfl rfl rfl rfl (t_Ta_init (by omega) hσ3) (j_putf rfl rfl rfl rfl hσ5 (j_aload_n rfl rfl (j_ldc rfl (j_s1 [.ref 2] [.ref v0] rfl rfl rfl rfl rfl (t_Ta_codesOf (by omega) hσ6) (j_putf rfl rfl rfl rfl hσ8 (j_aload_n rfl rfl (j_ldc rfl (j_s1 [.ref 3] [.ref v0] rfl rfl rfl rfl rfl (t_Ta_codesOf (by omega) hσ9) (j_putf rfl rfl rfl rfl hσ11 (j_aload_n rfl rfl (j_newk2 [.null, .null, .null, .null, .null, .null] rfl rfl rfl hσ12 ha13 (j_dup rfl rfl (j_i0 [.ref a13] [.ref a13, .ref v0] rfl rfl rfl rfl rfl rfl (t_Sf_init (by omega) hσ14) (j_putf rfl rfl rfl rfl hσ16 (j_aload_n rfl rfl (j_iconst (4 : Int32) rfl k32_4 (j_newrk 4 rfl (by decide) (by decide) hσ17 ha18 (j_putf rfl rfl rfl rfl hσ19 (j_aload_n rfl rfl (j_iconst (4 : Int32) rfl k32_4 (j_newk 4 (.int 0) rfl rfl rfl (by decide) (by decide) hσ20 ha21 (j_putf rfl rfl rfl rfl hσ22 (j_aload_n rfl rfl (j_newk2 [.int 0, .null, .null, .null, .null] rfl rfl rfl hσ23 ha24 (j_dup rfl rfl (j_i0 [.ref a24] [.ref a24, .ref v0] rfl rfl rfl rfl rfl rfl (t_Ho_init (by omega) hσ25) (j_putf rfl rfl rfl rfl hσ27 (j_aload_n rfl rfl (j_newk2 [.null, .null, .int 0] rfl rfl rfl hσ28 ha29 (j_dup rfl rfl (j_i0 [.ref a29] [.ref a29, .ref v0] rfl rfl rfl rfl rfl rfl (t_Li_init (by omega) hσ30) (j_putf rfl rfl rfl rfl hσ32 (j_aload_n rfl rfl (j_iconst (4 : Int32) rfl k32_4 (j_newrk 4 rfl (by decide) (by decide) hσ33 ha34 (j_putf rfl rfl rfl rfl hσ35 (j_aload_n rfl rfl (j_bipush (13 : Int32) rfl kb_13 (j_newk 13 (.int 0) rfl rfl rfl (by decide) (by decide) hσ36 ha37 (j_putf rfl rfl rfl rfl hσ38 (j_aload_n rfl rfl (j_newk2 [.int 0, .int 0, .long 0, .int 0, .null, .null, .null, .null] rfl rfl rfl hσ39 ha40 (j_dup rfl rfl (j_i0 [.ref a40] [.ref a40, .ref v0] rfl rfl rfl rfl rfl rfl (t_Wo_init (by omega) hσ41) (j_putf rfl rfl rfl rfl hσ43 (j_aload_n rfl rfl (j_sipush (225 : Int32) rfl ks_225 (j_newk 225 (.int 0) rfl rfl rfl (by decide) (by decide) hσ44 ha45 (j_putf rfl rfl rfl rfl hσ46 (j_aload_n rfl rfl (j_sipush (225 : Int32) rfl ks_225 (j_newk 225 (.int 0) rfl rfl rfl (by decide) (by decide) hσ47 ha48 (j_putf rfl rfl rfl rfl hσ49 (j_iconst (0 : Int32) rfl k32_0 (j_istore_n [some (.ref v0), some (.int (0 : Int32))] rfl rfl (Or.inr rfl) rfl (g)))))))))))))))))))))))))))))))))))))))))))))))))))))))))))))) (l_Rs_init_L128 hd v0 (fun _ _ h => h) q_FU (0 : Int32) σ49)) (fun t58 σ59 => ?_)
  refine J_sq (fun (t70 : Unit) (σ71 : q_H) => q_G (q_rf fo) d m_Rs_init o σ' 183 [none, none] [] σ71) (q_J.step (fun g => j_iconst (0 : Int32) rfl k32_0 (j_istore_n [some (.ref v0), some (.int (0 : Int32))] rfl rfl (Or.inr rfl) rfl (g))) (l_Rs_init_L154 hd v0 (fun _ _ h => h) q_FU (0 : Int32) σ59)) (fun t70 σ71 => ?_)
  exact J_some (fun h => j_vret rfl rfl h)
theorem t_Rs_init {fo : Option Nat} {d : Nat} (hd : 6 ≤ d) {v0 : Nat} {σ σ1 : q_H} {r : Unit} (h : f_Rs_init v0 σ = some (r, σ1)) : q_Rel (q_rf fo) q_Ms d 105 [.ref v0] σ (.inl none) σ1 := by
  obtain ⟨d, rfl⟩ : ∃ d1, d = d1 + 1 := ⟨d - 1, by omega⟩
  exact q_Rel.of rfl rfl (b_Rs_init hd _ σ _ _ h ⟨rfl, rfl⟩)

def f_Rs_next_L4 (v0 : Nat) : Nat → Int32 → Int32 → q_H → Option ((Int32) × q_H)
  | 0, _, _, _ => none
  | n + 1, v1, v2, σ => if v2 < (24 : Int32) then ((q_gr (q_gf σ 0 v0 3)).bind fun x2 => (q_ob σ 2 x2).bind fun w3 => q_sq (f_Sf_isUnread x2 v2 σ) fun x5 σ4 => if x5 = (0 : Int32) then (f_Rs_next_L4 v0 n v1 (v2 + (1 : Int32)) σ4) else (if v1 = (-1 : Int32) then (f_Rs_next_L4 v0 n v2 (v2 + (1 : Int32)) σ4) else ((q_ob σ4 0 v0).bind fun w8 => q_sq (f_Rs_isSooner v0 v2 v1 σ4) fun x10 σ9 => if x10 = (0 : Int32) then (f_Rs_next_L4 v0 n v1 (v2 + (1 : Int32)) σ9) else (f_Rs_next_L4 v0 n v2 (v2 + (1 : Int32)) σ9)))) else (some (v1, σ))
set_option maxRecDepth 100000 in
theorem l_Rs_next_L4 {fo : Option Nat} {d : Nat} (hd : 6 ≤ d + 1) {o : q_O} {σ' : q_H} {E : (Int32) → q_H → Prop} (v0 : Nat) (hX : ∀ (t : Int32) σ1, E (t) σ1 → q_G (q_rf fo) d m_Rs_next o σ' 43 [none, some (.int t), none] [] σ1)  : ∀ (n : Nat) (v1 : Int32) (v2 : Int32) (σ : q_H), q_J E (f_Rs_next_L4 v0 n v1 v2 σ) (q_G (q_rf fo) d m_Rs_next o σ' 4 [some (.ref v0), some (.int v1), some (.int v2)] [] σ)
  | 0, v1, v2, σ => J_none
  | n + 1, v1, v2, σ => by
    unfold f_Rs_next_L4
    refine q_J.step (fun g => j_iload_n rfl rfl (j_bipush (24 : Int32) rfl kb_24 (g))) ?_
    refine J_ite (fun h1 => ?_) (fun h1 => ?_)
    · refine J_bind fun x2 hx2 => ?_
      refine J_bind fun w3 hw3 => ?_
      refine J_cl fun x5 σ4 hσ4 => ?_
      refine q_J.step (fun g => j_icmp_f rfl (cc_ge_f h1) (j_aload_n rfl rfl (j_gfr rfl hx2 (j_iload_n rfl rfl (j_v1 [.ref x2, .int v2] [] rfl rfl rfl rfl rfl rfl hw3 (Or.inl rfl) (t_Sf_isUnread (by omega) hσ4) (g)))))) ?_
      refine J_ite (fun h6 => ?_) (fun h6 => ?_)
      · exact q_J.step (fun g => j_if_t rfl (cc_eq_t h6) (j_iinc [some (.ref v0), some (.int v1), some (.int (v2 + (1 : Int32)))] (v2 + (1 : Int32)) rfl rfl (by rw [k32_1]) (Or.inr rfl) rfl (j_goto rfl (g)))) (l_Rs_next_L4 hd v0 hX n v1 (v2 + (1 : Int32)) σ4)
      refine q_J.step (fun g => j_if_f rfl (cc_eq_f h6) (j_iload_n rfl rfl (j_iconst (-1 : Int32) rfl k32_m1 (g)))) ?_
      refine J_ite (fun h7 => ?_) (fun h7 => ?_)
      · exact q_J.step (fun g => j_icmp_t rfl (cc_eq_t h7) (j_iload_n rfl rfl (j_istore_n [some (.ref v0), some (.int v2), some (.int v2)] rfl rfl (Or.inr rfl) rfl (j_iinc [some (.ref v0), some (.int v2), some (.int (v2 + (1 : Int32)))] (v2 + (1 : Int32)) rfl rfl (by rw [k32_1]) (Or.inr rfl) rfl (j_goto rfl (g)))))) (l_Rs_next_L4 hd v0 hX n v2 (v2 + (1 : Int32)) σ4)
      refine J_bind fun w8 hw8 => ?_
      refine J_cl fun x10 σ9 hσ9 => ?_
      refine q_J.step (fun g => j_icmp_f rfl (cc_eq_f h7) (j_aload_n rfl rfl (j_iload_n rfl rfl (j_iload_n rfl rfl (j_v1 [.ref v0, .int v2, .int v1] [] rfl rfl rfl rfl rfl rfl hw8 (Or.inl rfl) (t_Rs_isSooner (by omega) hσ9) (g)))))) ?_
      refine J_ite (fun h11 => ?_) (fun h11 => ?_)
      · exact q_J.step (fun g => j_if_t rfl (cc_eq_t h11) (j_iinc [some (.ref v0), some (.int v1), some (.int (v2 + (1 : Int32)))] (v2 + (1 : Int32)) rfl rfl (by rw [k32_1]) (Or.inr rfl) rfl (j_goto rfl (g)))) (l_Rs_next_L4 hd v0 hX n v1 (v2 + (1 : Int32)) σ9)
      exact q_J.step (fun g => j_if_f rfl (cc_eq_f h11) (j_iload_n rfl rfl (j_istore_n [some (.ref v0), some (.int v2), some (.int v2)] rfl rfl (Or.inr rfl) rfl (j_iinc [some (.ref v0), some (.int v2), some (.int (v2 + (1 : Int32)))] (v2 + (1 : Int32)) rfl rfl (by rw [k32_1]) (Or.inr rfl) rfl (j_goto rfl (g)))))) (l_Rs_next_L4 hd v0 hX n v2 (v2 + (1 : Int32)) σ9)
    exact J_some (fun h => j_icmp_t rfl (cc_ge_t h1) (j_weak (l := [none, some (.int v1), none]) (And.intro (Or.inl rfl) (And.intro (Or.inr rfl) (And.intro (Or.inl rfl) True.intro))) (hX _ _ h)))

def f_Rs_next (v0 : Nat) (σ : q_H) : Option ((Int32) × q_H) := q_sq (f_Rs_next_L4 v0 q_FU (-1 : Int32) (0 : Int32) σ) fun (t12 : Int32) σ13 => some (t12, σ13)
set_option maxRecDepth 100000 in
theorem b_Rs_next {fo : Option Nat} {d : Nat} (hd : 6 ≤ d + 1) {o : q_O} {σ' : q_H} (v0 : Nat) (σ : q_H) : q_J (fun (r : Int32) (σ1 : q_H) => o = .inl (some (.int r)) ∧ σ' = σ1) (f_Rs_next v0 σ) (q_G (q_rf fo) d m_Rs_next o σ' 0 [some (.ref v0), none, none] [] σ) := by
  unfold f_Rs_next
  refine J_sq (fun (t12 : Int32) (σ13 : q_H) => q_G (q_rf fo) d m_Rs_next o σ' 43 [none, some (.int t12), none] [] σ13) (q_J.step (fun g => j_iconst (-1 : Int32) rfl k32_m1 (j_istore_n [some (.ref v0), some (.int (-1 : Int32)), none] rfl rfl (Or.inr rfl) rfl (j_iconst (0 : Int32) rfl k32_0 (j_istore_n [some (.ref v0), some (.int (-1 : Int32)), some (.int (0 : Int32))] rfl rfl (Or.inr rfl) rfl (g))))) (l_Rs_next_L4 hd v0 (fun _ _ h => h) q_FU (-1 : Int32) (0 : Int32) σ)) (fun t12 σ13 => ?_)
  exact J_some (fun h => j_iload_n rfl rfl (j_iret rfl rfl h))
theorem t_Rs_next {fo : Option Nat} {d : Nat} (hd : 6 ≤ d) {v0 : Nat} {σ σ1 : q_H} {r : Int32} (h : f_Rs_next v0 σ = some (r, σ1)) : q_Rel (q_rf fo) q_Ms d 125 [.ref v0] σ (.inl (some (.int r))) σ1 := by
  obtain ⟨d, rfl⟩ : ∃ d1, d = d1 + 1 := ⟨d - 1, by omega⟩
  exact q_Rel.of rfl rfl (b_Rs_next hd _ σ _ _ h ⟨rfl, rfl⟩)

def f_Rs_house (v0 : Nat) (v1 : Int32) (v2 : Int32) (σ : q_H) : Option ((Int32) × q_H) := (q_gr (q_gf σ 0 v0 3)).bind fun x1 => (q_ob σ 2 x1).bind fun w2 => q_sq (f_Sf_pageOf x1 v1 σ) fun x4 σ3 => match x4 with | none => (some ((-1 : Int32), σ3)) | some a5 => ((q_gr (q_gf σ3 0 v0 3)).bind fun x6 => (q_ob σ3 2 x6).bind fun w7 => q_sq (f_Sf_pageOf x6 v2 σ3) fun x9 σ8 => match x9 with | none => (some ((-1 : Int32), σ8)) | some a10 => (if v1 = v2 then (some ((-1 : Int32), σ8)) else ((q_gr (q_gf σ8 0 v0 6)).bind fun x12 => (q_gr (q_gf σ8 0 v0 3)).bind fun x13 => (q_ob σ8 3 x12).bind fun w14 => q_sq (f_Ho_refresh x12 x13 σ8) fun (_ : Unit) σ15 => (q_gr (q_gf σ15 0 v0 6)).bind fun x17 => (q_gr (q_gf σ15 3 x17 1)).bind fun x18 => (q_gi (q_ga σ15 20 x18 v1)).bind fun x19 => (q_gr (q_gf σ15 0 v0 6)).bind fun x20 => (q_gr (q_gf σ15 3 x20 1)).bind fun x21 => (q_gi (q_ga σ15 20 x21 v2)).bind fun x22 => if x19 = x22 then (some ((1 : Int32), σ15)) else (some ((0 : Int32), σ15)))))
set_option maxRecDepth 100000 in
theorem b_Rs_house {fo : Option Nat} {d : Nat} (hd : 6 ≤ d + 1) {o : q_O} {σ' : q_H} (v0 : Nat) (v1 : Int32) (v2 : Int32) (σ : q_H) : q_J (fun (r : Int32) (σ1 : q_H) => o = .inl (some (.int r)) ∧ σ' = σ1) (f_Rs_house v0 v1 v2 σ) (q_G (q_rf fo) d m_Rs_house o σ' 0 [some (.ref v0), some (.int v1), some (.int v2)] [] σ) := by
  unfold f_Rs_house
  refine J_bind fun x1 hx1 => ?_
  refine J_bind fun w2 hw2 => ?_
  refine J_cl fun x4 σ3 hσ3 => ?_
  refine q_J.step (fun g => j_aload_n rfl rfl (j_gfr rfl hx1 (j_iload_n rfl rfl (j_v1 [.ref x1, .int v1] [] rfl rfl rfl rfl rfl rfl hw2 (Or.inl rfl) (t_Sf_pageOf (by omega) hσ3) (g))))) ?_
  cases ha5 : x4 with
  | none =>
    try subst ha5
    exact J_some (fun h => j_nul_t rfl (j_iconst (-1 : Int32) rfl k32_m1 (j_iret rfl rfl h)))
  | some a5 =>
    try subst ha5
    refine J_bind fun x6 hx6 => ?_
    refine J_bind fun w7 hw7 => ?_
    refine J_cl fun x9 σ8 hσ8 => ?_
    refine q_J.step (fun g => j_nul_f rfl (j_aload_n rfl rfl (j_gfr rfl hx6 (j_iload_n rfl rfl (j_v1 [.ref x6, .int v2] [] rfl rfl rfl rfl rfl rfl hw7 (Or.inl rfl) (t_Sf_pageOf (by omega) hσ8) (g)))))) ?_
    cases ha10 : x9 with
    | none =>
      try subst ha10
      exact J_some (fun h => j_nul_t rfl (j_iconst (-1 : Int32) rfl k32_m1 (j_iret rfl rfl h)))
    | some a10 =>
      try subst ha10
      refine q_J.step (fun g => j_nul_f rfl (j_iload_n rfl rfl (j_iload_n rfl rfl (g)))) ?_
      refine J_ite (fun h11 => ?_) (fun h11 => ?_)
      · exact J_some (fun h => j_icmp_f rfl (cc_ne_f h11) (j_iconst (-1 : Int32) rfl k32_m1 (j_iret rfl rfl h)))
      refine J_bind fun x12 hx12 => ?_
      refine J_bind fun x13 hx13 => ?_
      refine J_bind fun w14 hw14 => ?_
      refine J_cl fun _ σ15 hσ15 => ?_
      refine J_bind fun x17 hx17 => ?_
      refine J_bind fun x18 hx18 => ?_
      refine J_bind fun x19 hx19 => ?_
      refine J_bind fun x20 hx20 => ?_
      refine J_bind fun x21 hx21 => ?_
      refine J_bind fun x22 hx22 => ?_
      refine q_J.step (fun g => j_icmp_t rfl (cc_ne_t h11) (j_aload_n rfl rfl (j_gfr rfl hx12 (j_aload_n rfl rfl (j_gfr rfl hx13 (j_v0 [.ref x12, .ref x13] [] rfl rfl rfl rfl rfl rfl hw14 (Or.inl rfl) (t_Ho_refresh (by omega) hσ15) (j_aload_n rfl rfl (j_gfr rfl hx17 (j_gfr rfl hx18 (j_iload_n rfl rfl (j_ial rfl hx19 (j_aload_n rfl rfl (j_gfr rfl hx20 (j_gfr rfl hx21 (g))))))))))))))) ?_
      refine q_J.step (fun g => j_iload_n rfl rfl (j_ial rfl hx22 (g))) ?_
      refine J_ite (fun h23 => ?_) (fun h23 => ?_)
      · exact J_some (fun h => j_icmp_f rfl (cc_ne_f h23) (j_iconst (1 : Int32) rfl k32_1 (j_goto rfl (j_iret rfl rfl h))))
      exact J_some (fun h => j_icmp_t rfl (cc_ne_t h23) (j_iconst (0 : Int32) rfl k32_0 (j_iret rfl rfl h)))
theorem t_Rs_house {fo : Option Nat} {d : Nat} (hd : 6 ≤ d) {v0 : Nat} {v1 : Int32} {v2 : Int32} {σ σ1 : q_H} {r : Int32} (h : f_Rs_house v0 v1 v2 σ = some (r, σ1)) : q_Rel (q_rf fo) q_Ms d 129 [.ref v0, .int v1, .int v2] σ (.inl (some (.int r))) σ1 := by
  obtain ⟨d, rfl⟩ : ∃ d1, d = d1 + 1 := ⟨d - 1, by omega⟩
  exact q_Rel.of rfl rfl (b_Rs_house hd _ _ _ σ _ _ h ⟨rfl, rfl⟩)

def f_Rs_leftOfAll_L16 (v0 : Nat) (v1 : Int32) (v2 : Int32) : Nat → Int32 → Int32 → q_H → Option ((Int32) × q_H)
  | 0, _, _, _ => none
  | n + 1, v3, v4, σ => if v4 < (24 : Int32) then ((q_gr (q_gf σ 0 v0 6)).bind fun x7 => (q_ob σ 3 x7).bind fun w8 => q_sq (f_Ho_leftOf x7 v4 v1 v2 σ) fun x10 σ9 => f_Rs_leftOfAll_L16 v0 v1 v2 n (v3 + x10) (v4 + (1 : Int32)) σ9) else (some (v3, σ))
set_option maxRecDepth 100000 in
theorem l_Rs_leftOfAll_L16 {fo : Option Nat} {d : Nat} (hd : 6 ≤ d + 1) {o : q_O} {σ' : q_H} {E : (Int32) → q_H → Prop} (v0 : Nat) (v1 : Int32) (v2 : Int32) (hX : ∀ (t : Int32) σ1, E (t) σ1 → q_G (q_rf fo) d m_Rs_leftOfAll o σ' 43 [none, none, none, some (.int t), none] [] σ1)  : ∀ (n : Nat) (v3 : Int32) (v4 : Int32) (σ : q_H), q_J E (f_Rs_leftOfAll_L16 v0 v1 v2 n v3 v4 σ) (q_G (q_rf fo) d m_Rs_leftOfAll o σ' 16 [some (.ref v0), some (.int v1), some (.int v2), some (.int v3), some (.int v4)] [] σ)
  | 0, v3, v4, σ => J_none
  | n + 1, v3, v4, σ => by
    unfold f_Rs_leftOfAll_L16
    refine q_J.step (fun g => j_iload rfl rfl (j_bipush (24 : Int32) rfl kb_24 (g))) ?_
    refine J_ite (fun h6 => ?_) (fun h6 => ?_)
    · refine J_bind fun x7 hx7 => ?_
      refine J_bind fun w8 hw8 => ?_
      refine J_cl fun x10 σ9 hσ9 => ?_
      exact q_J.step (fun g => j_icmp_f rfl (cc_ge_f h6) (j_iload_n rfl rfl (j_aload_n rfl rfl (j_gfr rfl hx7 (j_iload rfl rfl (j_iload_n rfl rfl (j_iload_n rfl rfl (j_v1 [.ref x7, .int v4, .int v1, .int v2] [.int v3] rfl rfl rfl rfl rfl rfl hw8 (Or.inl rfl) (t_Ho_leftOf (by omega) hσ9) (j_iadd rfl (j_istore_n [some (.ref v0), some (.int v1), some (.int v2), some (.int (v3 + x10)), some (.int v4)] rfl rfl (Or.inr rfl) rfl (j_iinc [some (.ref v0), some (.int v1), some (.int v2), some (.int (v3 + x10)), some (.int (v4 + (1 : Int32)))] (v4 + (1 : Int32)) rfl rfl (by rw [k32_1]) (Or.inr rfl) rfl (j_goto rfl (g))))))))))))) (l_Rs_leftOfAll_L16 hd v0 v1 v2 hX n (v3 + x10) (v4 + (1 : Int32)) σ9)
    exact J_some (fun h => j_icmp_t rfl (cc_ge_t h6) (j_weak (l := [none, none, none, some (.int v3), none]) (And.intro (Or.inl rfl) (And.intro (Or.inl rfl) (And.intro (Or.inl rfl) (And.intro (Or.inr rfl) (And.intro (Or.inl rfl) True.intro))))) (hX _ _ h)))

def f_Rs_leftOfAll (v0 : Nat) (v1 : Int32) (v2 : Int32) (σ : q_H) : Option ((Int32) × q_H) := (q_gr (q_gf σ 0 v0 6)).bind fun x1 => (q_gr (q_gf σ 0 v0 3)).bind fun x2 => (q_ob σ 3 x1).bind fun w3 => q_sq (f_Ho_refresh x1 x2 σ) fun (_ : Unit) σ4 => q_sq (f_Rs_leftOfAll_L16 v0 v1 v2 q_FU (0 : Int32) (0 : Int32) σ4) fun (t11 : Int32) σ12 => some (t11, σ12)
set_option maxRecDepth 100000 in
theorem b_Rs_leftOfAll {fo : Option Nat} {d : Nat} (hd : 6 ≤ d + 1) {o : q_O} {σ' : q_H} (v0 : Nat) (v1 : Int32) (v2 : Int32) (σ : q_H) : q_J (fun (r : Int32) (σ1 : q_H) => o = .inl (some (.int r)) ∧ σ' = σ1) (f_Rs_leftOfAll v0 v1 v2 σ) (q_G (q_rf fo) d m_Rs_leftOfAll o σ' 0 [some (.ref v0), some (.int v1), some (.int v2), none, none] [] σ) := by
  unfold f_Rs_leftOfAll
  refine J_bind fun x1 hx1 => ?_
  refine J_bind fun x2 hx2 => ?_
  refine J_bind fun w3 hw3 => ?_
  refine J_cl fun _ σ4 hσ4 => ?_
  refine J_sq (fun (t11 : Int32) (σ12 : q_H) => q_G (q_rf fo) d m_Rs_leftOfAll o σ' 43 [none, none, none, some (.int t11), none] [] σ12) (q_J.step (fun g => j_aload_n rfl rfl (j_gfr rfl hx1 (j_aload_n rfl rfl (j_gfr rfl hx2 (j_v0 [.ref x1, .ref x2] [] rfl rfl rfl rfl rfl rfl hw3 (Or.inl rfl) (t_Ho_refresh (by omega) hσ4) (j_iconst (0 : Int32) rfl k32_0 (j_istore_n [some (.ref v0), some (.int v1), some (.int v2), some (.int (0 : Int32)), none] rfl rfl (Or.inr rfl) rfl (j_iconst (0 : Int32) rfl k32_0 (j_istore [some (.ref v0), some (.int v1), some (.int v2), some (.int (0 : Int32)), some (.int (0 : Int32))] rfl rfl (Or.inr rfl) rfl (g)))))))))) (l_Rs_leftOfAll_L16 hd v0 v1 v2 (fun _ _ h => h) q_FU (0 : Int32) (0 : Int32) σ4)) (fun t11 σ12 => ?_)
  exact J_some (fun h => j_iload_n rfl rfl (j_iret rfl rfl h))
theorem t_Rs_leftOfAll {fo : Option Nat} {d : Nat} (hd : 6 ≤ d) {v0 : Nat} {v1 : Int32} {v2 : Int32} {σ σ1 : q_H} {r : Int32} (h : f_Rs_leftOfAll v0 v1 v2 σ = some (r, σ1)) : q_Rel (q_rf fo) q_Ms d 131 [.ref v0, .int v1, .int v2] σ (.inl (some (.int r))) σ1 := by
  obtain ⟨d, rfl⟩ : ∃ d1, d = d1 + 1 := ⟨d - 1, by omega⟩
  exact q_Rel.of rfl rfl (b_Rs_leftOfAll hd _ _ _ σ _ _ h ⟨rfl, rfl⟩)

def f_Rs_readings (v0 : Nat) (v1 : Int32) (σ : q_H) : Option ((Int32) × q_H) := (q_ob σ 0 v0).bind fun w1 => q_sq (f_Rs_findReadings v0 σ) fun x3 σ2 => if v1 = (0 : Int32) then (some (x3, σ2)) else (q_sq (f_Rs_isFrom (1 : Int32) v1 (6 : Int32) σ2) fun x6 σ5 => if x6 = (0 : Int32) then (some ((-1 : Int32), σ5)) else (if x3 = (0 : Int32) then (some ((-1 : Int32), σ5)) else (q_sq (if (3 : Int32) < v1 then (some ((1 : Int32), σ5)) else (some ((0 : Int32), σ5))) fun (t10 : Int32) σ11 => (q_ob σ11 0 v0).bind fun w12 => q_sq (f_Rs_findUtmost v0 x3 t10 σ11) fun x14 σ13 => if ((v1 - (1 : Int32)) - (v1 - (1 : Int32)) / (3 : Int32) * (3 : Int32)) = (2 : Int32) then (some (x14, σ13)) else ((q_gr (q_gf σ13 0 v0 11)).bind fun x16 => (q_gi (q_ga σ13 20 x16 x14)).bind fun x17 => (q_gr (q_gf σ13 0 v0 12)).bind fun x18 => (q_gi (q_ga σ13 20 x18 x14)).bind fun x19 => q_sq (f_Ra_of x17.toInt64 x19.toInt64 σ13) fun x21 σ20 => q_sq (f_Rs_partOf x21 ((v1 - (1 : Int32)) - (v1 - (1 : Int32)) / (3 : Int32) * (3 : Int32)) σ20) fun x23 σ22 => some (x23, σ22)))))
set_option maxRecDepth 100000 in
theorem b_Rs_readings {fo : Option Nat} {d : Nat} (hd : 6 ≤ d + 1) {o : q_O} {σ' : q_H} (v0 : Nat) (v1 : Int32) (σ : q_H) : q_J (fun (r : Int32) (σ1 : q_H) => o = .inl (some (.int r)) ∧ σ' = σ1) (f_Rs_readings v0 v1 σ) (q_G (q_rf fo) d m_Rs_readings o σ' 0 [some (.ref v0), some (.int v1), none, none, none] [] σ) := by
  unfold f_Rs_readings
  refine J_bind fun w1 hw1 => ?_
  refine J_cl fun x3 σ2 hσ2 => ?_
  refine q_J.step (fun g => j_aload_n rfl rfl (j_v1 [.ref v0] [] rfl rfl rfl rfl rfl rfl hw1 (Or.inl rfl) (t_Rs_findReadings (by omega) hσ2) (j_istore_n [some (.ref v0), some (.int v1), some (.int x3), none, none] rfl rfl (Or.inr rfl) rfl (j_iload_n rfl rfl (g))))) ?_
  refine J_ite (fun h4 => ?_) (fun h4 => ?_)
  · exact J_some (fun h => j_if_f rfl (cc_ne_f h4) (j_iload_n rfl rfl (j_iret rfl rfl h)))
  refine J_cl fun x6 σ5 hσ5 => ?_
  refine q_J.step (fun g => j_if_t rfl (cc_ne_t h4) (j_iconst (1 : Int32) rfl k32_1 (j_iload_n rfl rfl (j_bipush (6 : Int32) rfl kb_6 (j_s1 [.int (1 : Int32), .int v1, .int (6 : Int32)] [] rfl rfl rfl rfl rfl (t_Rs_isFrom (by omega) hσ5) (g)))))) ?_
  refine J_ite (fun h7 => ?_) (fun h7 => ?_)
  · exact J_some (fun h => j_if_t rfl (cc_eq_t h7) (j_iconst (-1 : Int32) rfl k32_m1 (j_iret rfl rfl h)))
  refine q_J.step (fun g => j_if_f rfl (cc_eq_f h7) (j_iload_n rfl rfl (g))) ?_
  refine J_ite (fun h8 => ?_) (fun h8 => ?_)
  · exact J_some (fun h => j_if_f rfl (cc_ne_f h8) (j_iconst (-1 : Int32) rfl k32_m1 (j_iret rfl rfl h)))
  refine q_J.step (fun g => j_if_t rfl (cc_ne_t h8) (j_aload_n rfl rfl (j_iload_n rfl rfl (j_iload_n rfl rfl (j_iconst (3 : Int32) rfl k32_3 (g)))))) ?_
  refine J_sq (fun (t10 : Int32) (σ11 : q_H) => q_G (q_rf fo) d m_Rs_readings o σ' 39 [some (.ref v0), some (.int v1), none, none, none] [.int t10, .int x3, .ref v0] σ11) ?_ (fun t10 σ11 => ?_)
  · refine J_ite (fun h9 => ?_) (fun h9 => ?_)
    · exact J_some (fun h => j_icmp_f rfl (cc_le_f h9) (j_iconst (1 : Int32) rfl k32_1 (j_goto rfl (j_weak (l := [some (.ref v0), some (.int v1), none, none, none]) (And.intro (Or.inr rfl) (And.intro (Or.inr rfl) (And.intro (Or.inl rfl) (And.intro (Or.inr rfl) (And.intro (Or.inr rfl) True.intro))))) (h)))))
    exact J_some (fun h => j_icmp_t rfl (cc_le_t h9) (j_iconst (0 : Int32) rfl k32_0 (j_weak (l := [some (.ref v0), some (.int v1), none, none, none]) (And.intro (Or.inr rfl) (And.intro (Or.inr rfl) (And.intro (Or.inl rfl) (And.intro (Or.inr rfl) (And.intro (Or.inr rfl) True.intro))))) (h))))
  refine J_bind fun w12 hw12 => ?_
  refine J_cl fun x14 σ13 hσ13 => ?_
  refine q_J.step (fun g => j_v1 [.ref v0, .int x3, .int t10] [] rfl rfl rfl rfl rfl rfl hw12 (Or.inl rfl) (t_Rs_findUtmost (by omega) hσ13) (j_istore_n [some (.ref v0), some (.int v1), none, some (.int x14), none] rfl rfl (Or.inr True.intro) rfl (j_iload_n rfl rfl (j_iconst (1 : Int32) rfl k32_1 (j_isub rfl (j_iconst (3 : Int32) rfl k32_3 (j_irem rfl (by decide) (j_istore [some (.ref v0), some (.int v1), none, some (.int x14), some (.int ((v1 - (1 : Int32)) - (v1 - (1 : Int32)) / (3 : Int32) * (3 : Int32)))] rfl rfl (Or.inr rfl) rfl (j_iload rfl rfl (j_iconst (2 : Int32) rfl k32_2 (g))))))))))) ?_
  refine J_ite (fun h15 => ?_) (fun h15 => ?_)
  · exact J_some (fun h => j_icmp_f rfl (cc_ne_f h15) (j_iload_n rfl rfl (j_goto rfl (j_iret rfl rfl h))))
  refine J_bind fun x16 hx16 => ?_
  refine J_bind fun x17 hx17 => ?_
  refine J_bind fun x18 hx18 => ?_
  refine J_bind fun x19 hx19 => ?_
  refine J_cl fun x21 σ20 hσ20 => ?_
  refine J_cl fun x23 σ22 hσ22 => ?_
  exact J_some (fun h => j_icmp_t rfl (cc_ne_t h15) (j_aload_n rfl rfl (j_gfr rfl hx16 (j_iload_n rfl rfl (j_ial rfl hx17 (j_i2l rfl (j_aload_n rfl rfl (j_gfr rfl hx18 (j_iload_n rfl rfl (j_ial rfl hx19 (j_i2l rfl (j_s1 [.long x17.toInt64, .long x19.toInt64] [] rfl rfl rfl rfl rfl (t_Ra_of (by omega) hσ20) (j_iload rfl rfl (j_s1 [q_rf x21, .int ((v1 - (1 : Int32)) - (v1 - (1 : Int32)) / (3 : Int32) * (3 : Int32))] [] rfl rfl rfl rfl rfl (t_Rs_partOf (by omega) hσ22) (j_iret rfl rfl h)))))))))))))))
theorem t_Rs_readings {fo : Option Nat} {d : Nat} (hd : 6 ≤ d) {v0 : Nat} {v1 : Int32} {σ σ1 : q_H} {r : Int32} (h : f_Rs_readings v0 v1 σ = some (r, σ1)) : q_Rel (q_rf fo) q_Ms d 154 [.ref v0, .int v1] σ (.inl (some (.int r))) σ1 := by
  obtain ⟨d, rfl⟩ : ∃ d1, d = d1 + 1 := ⟨d - 1, by omega⟩
  exact q_Rel.of rfl rfl (b_Rs_readings hd _ _ σ _ _ h ⟨rfl, rfl⟩)

def f_Rs_reading (v0 : Nat) (v1 : Int32) (v2 : Int32) (σ : q_H) : Option ((Int32) × q_H) := (q_ob σ 0 v0).bind fun w1 => q_sq (f_Rs_findReadings v0 σ) fun x3 σ2 => q_sq (f_Rs_isFrom (0 : Int32) v1 (x3 - (1 : Int32)) σ2) fun x5 σ4 => if x5 = (0 : Int32) then (some ((-1 : Int32), σ4)) else ((q_gr (q_gf σ4 0 v0 11)).bind fun x7 => (q_gi (q_ga σ4 20 x7 v1)).bind fun x8 => (q_gr (q_gf σ4 0 v0 12)).bind fun x9 => (q_gi (q_ga σ4 20 x9 v1)).bind fun x10 => q_sq (f_Ra_of x8.toInt64 x10.toInt64 σ4) fun x12 σ11 => q_sq (f_Rs_partOf x12 v2 σ11) fun x14 σ13 => some (x14, σ13))
set_option maxRecDepth 100000 in
theorem b_Rs_reading {fo : Option Nat} {d : Nat} (hd : 6 ≤ d + 1) {o : q_O} {σ' : q_H} (v0 : Nat) (v1 : Int32) (v2 : Int32) (σ : q_H) : q_J (fun (r : Int32) (σ1 : q_H) => o = .inl (some (.int r)) ∧ σ' = σ1) (f_Rs_reading v0 v1 v2 σ) (q_G (q_rf fo) d m_Rs_reading o σ' 0 [some (.ref v0), some (.int v1), some (.int v2), none] [] σ) := by
  unfold f_Rs_reading
  refine J_bind fun w1 hw1 => ?_
  refine J_cl fun x3 σ2 hσ2 => ?_
  refine J_cl fun x5 σ4 hσ4 => ?_
  refine q_J.step (fun g => j_aload_n rfl rfl (j_v1 [.ref v0] [] rfl rfl rfl rfl rfl rfl hw1 (Or.inl rfl) (t_Rs_findReadings (by omega) hσ2) (j_istore_n [some (.ref v0), some (.int v1), some (.int v2), some (.int x3)] rfl rfl (Or.inr rfl) rfl (j_iconst (0 : Int32) rfl k32_0 (j_iload_n rfl rfl (j_iload_n rfl rfl (j_iconst (1 : Int32) rfl k32_1 (j_isub rfl (j_s1 [.int (0 : Int32), .int v1, .int (x3 - (1 : Int32))] [] rfl rfl rfl rfl rfl (t_Rs_isFrom (by omega) hσ4) (g)))))))))) ?_
  refine J_ite (fun h6 => ?_) (fun h6 => ?_)
  · exact J_some (fun h => j_if_t rfl (cc_eq_t h6) (j_iconst (-1 : Int32) rfl k32_m1 (j_iret rfl rfl h)))
  refine J_bind fun x7 hx7 => ?_
  refine J_bind fun x8 hx8 => ?_
  refine J_bind fun x9 hx9 => ?_
  refine J_bind fun x10 hx10 => ?_
  refine J_cl fun x12 σ11 hσ11 => ?_
  refine J_cl fun x14 σ13 hσ13 => ?_
  exact J_some (fun h => j_if_f rfl (cc_eq_f h6) (j_aload_n rfl rfl (j_gfr rfl hx7 (j_iload_n rfl rfl (j_ial rfl hx8 (j_i2l rfl (j_aload_n rfl rfl (j_gfr rfl hx9 (j_iload_n rfl rfl (j_ial rfl hx10 (j_i2l rfl (j_s1 [.long x8.toInt64, .long x10.toInt64] [] rfl rfl rfl rfl rfl (t_Ra_of (by omega) hσ11) (j_iload_n rfl rfl (j_s1 [q_rf x12, .int v2] [] rfl rfl rfl rfl rfl (t_Rs_partOf (by omega) hσ13) (j_goto rfl (j_iret rfl rfl h))))))))))))))))
theorem t_Rs_reading {fo : Option Nat} {d : Nat} (hd : 6 ≤ d) {v0 : Nat} {v1 : Int32} {v2 : Int32} {σ σ1 : q_H} {r : Int32} (h : f_Rs_reading v0 v1 v2 σ = some (r, σ1)) : q_Rel (q_rf fo) q_Ms d 158 [.ref v0, .int v1, .int v2] σ (.inl (some (.int r))) σ1 := by
  obtain ⟨d, rfl⟩ : ∃ d1, d = d1 + 1 := ⟨d - 1, by omega⟩
  exact q_Rel.of rfl rfl (b_Rs_reading hd _ _ _ σ _ _ h ⟨rfl, rfl⟩)

def f_Rs_says_L37 (v0 : Nat) (v1 : Int32) (v2 : Int32) (v3 : Int32) : Nat → Int32 → Int32 → q_H → Option ((Int32) × q_H)
  | 0, _, _, _ => none
  | n + 1, v4, v5, σ => if v5 < v3 then ((q_gr (q_gf σ 0 v0 11)).bind fun x12 => (q_gi (q_ga σ 20 x12 v5)).bind fun x13 => (q_gr (q_gf σ 0 v0 12)).bind fun x14 => (q_gi (q_ga σ 20 x14 v5)).bind fun x15 => if (x13 * v2) < (v1 * x15) then (f_Rs_says_L37 v0 v1 v2 v3 n (v4 + (0 : Int32)) (v5 + (1 : Int32)) σ) else (f_Rs_says_L37 v0 v1 v2 v3 n (v4 + (1 : Int32)) (v5 + (1 : Int32)) σ)) else (some (v4, σ))
set_option maxRecDepth 100000 in
theorem l_Rs_says_L37 {fo : Option Nat} {d : Nat} (hd : 6 ≤ d + 1) {o : q_O} {σ' : q_H} {E : (Int32) → q_H → Prop} (v0 : Nat) (v1 : Int32) (v2 : Int32) (v3 : Int32) (hX : ∀ (t : Int32) σ1, E (t) σ1 → q_G (q_rf fo) d m_Rs_says o σ' 80 [none, none, none, some (.int v3), some (.int t), none] [] σ1)  : ∀ (n : Nat) (v4 : Int32) (v5 : Int32) (σ : q_H), q_J E (f_Rs_says_L37 v0 v1 v2 v3 n v4 v5 σ) (q_G (q_rf fo) d m_Rs_says o σ' 37 [some (.ref v0), some (.int v1), some (.int v2), some (.int v3), some (.int v4), some (.int v5)] [] σ)
  | 0, v4, v5, σ => J_none
  | n + 1, v4, v5, σ => by
    unfold f_Rs_says_L37
    refine q_J.step (fun g => j_iload rfl rfl (j_iload_n rfl rfl (g))) ?_
    refine J_ite (fun h11 => ?_) (fun h11 => ?_)
    · refine J_bind fun x12 hx12 => ?_
      refine J_bind fun x13 hx13 => ?_
      refine J_bind fun x14 hx14 => ?_
      refine J_bind fun x15 hx15 => ?_
      refine q_J.step (fun g => j_icmp_f rfl (cc_ge_f h11) (j_iload rfl rfl (j_aload_n rfl rfl (j_gfr rfl hx12 (j_iload rfl rfl (j_ial rfl hx13 (j_iload_n rfl rfl (j_imul rfl (j_iload_n rfl rfl (j_aload_n rfl rfl (j_gfr rfl hx14 (j_iload rfl rfl (j_ial rfl hx15 (j_imul rfl (g))))))))))))))) ?_
      refine J_ite (fun h16 => ?_) (fun h16 => ?_)
      · exact q_J.step (fun g => j_icmp_t rfl (cc_lt_t h16) (j_iconst (0 : Int32) rfl k32_0 (j_iadd rfl (j_istore [some (.ref v0), some (.int v1), some (.int v2), some (.int v3), some (.int (v4 + (0 : Int32))), some (.int v5)] rfl rfl (Or.inr rfl) rfl (j_iinc [some (.ref v0), some (.int v1), some (.int v2), some (.int v3), some (.int (v4 + (0 : Int32))), some (.int (v5 + (1 : Int32)))] (v5 + (1 : Int32)) rfl rfl (by rw [k32_1]) (Or.inr rfl) rfl (j_goto rfl (g))))))) (l_Rs_says_L37 hd v0 v1 v2 v3 hX n (v4 + (0 : Int32)) (v5 + (1 : Int32)) σ)
      exact q_J.step (fun g => j_icmp_f rfl (cc_lt_f h16) (j_iconst (1 : Int32) rfl k32_1 (j_goto rfl (j_iadd rfl (j_istore [some (.ref v0), some (.int v1), some (.int v2), some (.int v3), some (.int (v4 + (1 : Int32))), some (.int v5)] rfl rfl (Or.inr rfl) rfl (j_iinc [some (.ref v0), some (.int v1), some (.int v2), some (.int v3), some (.int (v4 + (1 : Int32))), some (.int (v5 + (1 : Int32)))] (v5 + (1 : Int32)) rfl rfl (by rw [k32_1]) (Or.inr rfl) rfl (j_goto rfl (g)))))))) (l_Rs_says_L37 hd v0 v1 v2 v3 hX n (v4 + (1 : Int32)) (v5 + (1 : Int32)) σ)
    exact J_some (fun h => j_icmp_t rfl (cc_ge_t h11) (j_weak (l := [none, none, none, some (.int v3), some (.int v4), none]) (And.intro (Or.inl rfl) (And.intro (Or.inl rfl) (And.intro (Or.inl rfl) (And.intro (Or.inr rfl) (And.intro (Or.inr rfl) (And.intro (Or.inl rfl) True.intro)))))) (hX _ _ h)))

def f_Rs_says (v0 : Nat) (v1 : Int32) (v2 : Int32) (σ : q_H) : Option ((Int32) × q_H) := (q_ob σ 0 v0).bind fun w1 => q_sq (f_Rs_findReadings v0 σ) fun x3 σ2 => q_sq (f_Rs_isFrom (0 : Int32) v1 (99 : Int32) σ2) fun x5 σ4 => if x5 = (0 : Int32) then (some ((-1 : Int32), σ4)) else (q_sq (f_Rs_isFrom (1 : Int32) v2 (99 : Int32) σ4) fun x8 σ7 => if x8 = (0 : Int32) then (some ((-1 : Int32), σ7)) else (if x3 = (0 : Int32) then (some ((-1 : Int32), σ7)) else (q_sq (f_Rs_says_L37 v0 v1 v2 x3 q_FU (0 : Int32) (0 : Int32) σ7) fun (t17 : Int32) σ18 => if t17 = x3 then (some ((2 : Int32), σ18)) else (if (0 : Int32) < t17 then (some ((1 : Int32), σ18)) else (some ((0 : Int32), σ18))))))
set_option maxRecDepth 100000 in
theorem b_Rs_says {fo : Option Nat} {d : Nat} (hd : 6 ≤ d + 1) {o : q_O} {σ' : q_H} (v0 : Nat) (v1 : Int32) (v2 : Int32) (σ : q_H) : q_J (fun (r : Int32) (σ1 : q_H) => o = .inl (some (.int r)) ∧ σ' = σ1) (f_Rs_says v0 v1 v2 σ) (q_G (q_rf fo) d m_Rs_says o σ' 0 [some (.ref v0), some (.int v1), some (.int v2), none, none, none] [] σ) := by
  unfold f_Rs_says
  refine J_bind fun w1 hw1 => ?_
  refine J_cl fun x3 σ2 hσ2 => ?_
  refine J_cl fun x5 σ4 hσ4 => ?_
  refine q_J.step (fun g => j_aload_n rfl rfl (j_v1 [.ref v0] [] rfl rfl rfl rfl rfl rfl hw1 (Or.inl rfl) (t_Rs_findReadings (by omega) hσ2) (j_istore_n [some (.ref v0), some (.int v1), some (.int v2), some (.int x3), none, none] rfl rfl (Or.inr rfl) rfl (j_iconst (0 : Int32) rfl k32_0 (j_iload_n rfl rfl (j_bipush (99 : Int32) rfl kb_99 (j_s1 [.int (0 : Int32), .int v1, .int (99 : Int32)] [] rfl rfl rfl rfl rfl (t_Rs_isFrom (by omega) hσ4) (g)))))))) ?_
  refine J_ite (fun h6 => ?_) (fun h6 => ?_)
  · exact J_some (fun h => j_if_t rfl (cc_eq_t h6) (j_iconst (-1 : Int32) rfl k32_m1 (j_iret rfl rfl h)))
  refine J_cl fun x8 σ7 hσ7 => ?_
  refine q_J.step (fun g => j_if_f rfl (cc_eq_f h6) (j_iconst (1 : Int32) rfl k32_1 (j_iload_n rfl rfl (j_bipush (99 : Int32) rfl kb_99 (j_s1 [.int (1 : Int32), .int v2, .int (99 : Int32)] [] rfl rfl rfl rfl rfl (t_Rs_isFrom (by omega) hσ7) (g)))))) ?_
  refine J_ite (fun h9 => ?_) (fun h9 => ?_)
  · exact J_some (fun h => j_if_t rfl (cc_eq_t h9) (j_iconst (-1 : Int32) rfl k32_m1 (j_iret rfl rfl h)))
  refine q_J.step (fun g => j_if_f rfl (cc_eq_f h9) (j_iload_n rfl rfl (g))) ?_
  refine J_ite (fun h10 => ?_) (fun h10 => ?_)
  · exact J_some (fun h => j_if_f rfl (cc_ne_f h10) (j_iconst (-1 : Int32) rfl k32_m1 (j_iret rfl rfl h)))
  refine J_sq (fun (t17 : Int32) (σ18 : q_H) => q_G (q_rf fo) d m_Rs_says o σ' 80 [none, none, none, some (.int x3), some (.int t17), none] [] σ18) (q_J.step (fun g => j_if_t rfl (cc_ne_t h10) (j_iconst (0 : Int32) rfl k32_0 (j_istore [some (.ref v0), some (.int v1), some (.int v2), some (.int x3), some (.int (0 : Int32)), none] rfl rfl (Or.inr rfl) rfl (j_iconst (0 : Int32) rfl k32_0 (j_istore [some (.ref v0), some (.int v1), some (.int v2), some (.int x3), some (.int (0 : Int32)), some (.int (0 : Int32))] rfl rfl (Or.inr rfl) rfl (g)))))) (l_Rs_says_L37 hd v0 v1 v2 x3 (fun _ _ h => h) q_FU (0 : Int32) (0 : Int32) σ7)) (fun t17 σ18 => ?_)
  refine q_J.step (fun g => j_iload rfl rfl (j_iload_n rfl rfl (g))) ?_
  refine J_ite (fun h19 => ?_) (fun h19 => ?_)
  · exact J_some (fun h => j_icmp_f rfl (cc_ne_f h19) (j_iconst (2 : Int32) rfl k32_2 (j_goto rfl (j_iret rfl rfl h))))
  refine q_J.step (fun g => j_icmp_t rfl (cc_ne_t h19) (j_iload rfl rfl (g))) ?_
  refine J_ite (fun h20 => ?_) (fun h20 => ?_)
  · exact J_some (fun h => j_if_f rfl (cc_le_f h20) (j_iconst (1 : Int32) rfl k32_1 (j_goto rfl (j_iret rfl rfl h))))
  exact J_some (fun h => j_if_t rfl (cc_le_t h20) (j_iconst (0 : Int32) rfl k32_0 (j_iret rfl rfl h)))
theorem t_Rs_says {fo : Option Nat} {d : Nat} (hd : 6 ≤ d) {v0 : Nat} {v1 : Int32} {v2 : Int32} {σ σ1 : q_H} {r : Int32} (h : f_Rs_says v0 v1 v2 σ = some (r, σ1)) : q_Rel (q_rf fo) q_Ms d 159 [.ref v0, .int v1, .int v2] σ (.inl (some (.int r))) σ1 := by
  obtain ⟨d, rfl⟩ : ∃ d1, d = d1 + 1 := ⟨d - 1, by omega⟩
  exact q_Rel.of rfl rfl (b_Rs_says hd _ _ _ σ _ _ h ⟨rfl, rfl⟩)

def f_Rs_count (v0 : Nat) (v1 : Int32) (σ : q_H) : Option ((Int32) × q_H) := if v1 = (0 : Int32) then ((q_gr (q_gf σ 0 v0 3)).bind fun x2 => (q_ob σ 2 x2).bind fun w3 => q_sq (f_Sf_toldCount x2 σ) fun x5 σ4 => some (x5, σ4)) else if v1 = (1 : Int32) then ((q_gr (q_gf σ 0 v0 3)).bind fun x7 => (q_ob σ 2 x7).bind fun w8 => q_sq (f_Sf_readCount x7 σ) fun x10 σ9 => some (x10, σ9)) else if v1 = (2 : Int32) then ((q_gr (q_gf σ 0 v0 3)).bind fun x12 => (q_ob σ 2 x12).bind fun w13 => q_sq (f_Sf_lineCount x12 σ) fun x15 σ14 => some (x15, σ14)) else if v1 = (3 : Int32) then ((q_gr (q_gf σ 0 v0 6)).bind fun x17 => (q_gr (q_gf σ 0 v0 3)).bind fun x18 => (q_ob σ 3 x17).bind fun w19 => q_sq (f_Ho_refresh x17 x18 σ) fun (_ : Unit) σ20 => (q_gr (q_gf σ20 0 v0 6)).bind fun x22 => (q_gr (q_gf σ20 0 v0 3)).bind fun x23 => (q_ob σ20 3 x22).bind fun w24 => q_sq (f_Ho_countOf x22 x23 σ20) fun x26 σ25 => some (x26, σ25)) else if v1 = (4 : Int32) then ((q_gr (q_gf σ 0 v0 7)).bind fun x28 => (q_gi (q_gf σ 4 x28 2)).bind fun x29 => some (x29, σ)) else if v1 = (5 : Int32) then ((q_ob σ 0 v0).bind fun w31 => q_sq (f_Rs_lawLines v0 σ) fun x33 σ32 => some (x33, σ32)) else if v1 = (6 : Int32) then ((q_gr (q_gf σ 0 v0 0)).bind fun x35 => (q_gi (q_gf σ 1 x35 1)).bind fun x36 => some (x36, σ)) else if v1 = (7 : Int32) then ((q_ob σ 0 v0).bind fun w38 => q_sq (f_Rs_unfreeMarriages v0 σ) fun x40 σ39 => some (x40, σ39)) else (some ((-1 : Int32), σ))
set_option maxRecDepth 100000 in
theorem b_Rs_count {fo : Option Nat} {d : Nat} (hd : 6 ≤ d + 1) {o : q_O} {σ' : q_H} (v0 : Nat) (v1 : Int32) (σ : q_H) : q_J (fun (r : Int32) (σ1 : q_H) => o = .inl (some (.int r)) ∧ σ' = σ1) (f_Rs_count v0 v1 σ) (q_G (q_rf fo) d m_Rs_count o σ' 0 [some (.ref v0), some (.int v1)] [] σ) := by
  unfold f_Rs_count
  refine q_J.step (fun g => j_iload_n rfl rfl (g)) ?_
  refine J_ite (fun h1 => ?_) (fun h1 => ?_)
  · refine J_bind fun x2 hx2 => ?_
    refine J_bind fun w3 hw3 => ?_
    refine J_cl fun x5 σ4 hσ4 => ?_
    exact J_some (fun h => j_sw 48 rfl (by rw [h1]; decide) (by rw [h1]; decide) (j_aload_n rfl rfl (j_gfr rfl hx2 (j_v1 [.ref x2] [] rfl rfl rfl rfl rfl rfl hw3 (Or.inl rfl) (t_Sf_toldCount (by omega) hσ4) (j_iret rfl rfl h)))))
  refine J_ite (fun h6 => ?_) (fun h6 => ?_)
  · refine J_bind fun x7 hx7 => ?_
    refine J_bind fun w8 hw8 => ?_
    refine J_cl fun x10 σ9 hσ9 => ?_
    exact J_some (fun h => j_sw 56 rfl (by rw [h6]; decide) (by rw [h6]; decide) (j_aload_n rfl rfl (j_gfr rfl hx7 (j_v1 [.ref x7] [] rfl rfl rfl rfl rfl rfl hw8 (Or.inl rfl) (t_Sf_readCount (by omega) hσ9) (j_iret rfl rfl h)))))
  refine J_ite (fun h11 => ?_) (fun h11 => ?_)
  · refine J_bind fun x12 hx12 => ?_
    refine J_bind fun w13 hw13 => ?_
    refine J_cl fun x15 σ14 hσ14 => ?_
    exact J_some (fun h => j_sw 64 rfl (by rw [h11]; decide) (by rw [h11]; decide) (j_aload_n rfl rfl (j_gfr rfl hx12 (j_v1 [.ref x12] [] rfl rfl rfl rfl rfl rfl hw13 (Or.inl rfl) (t_Sf_lineCount (by omega) hσ14) (j_iret rfl rfl h)))))
  refine J_ite (fun h16 => ?_) (fun h16 => ?_)
  · refine J_bind fun x17 hx17 => ?_
    refine J_bind fun x18 hx18 => ?_
    refine J_bind fun w19 hw19 => ?_
    refine J_cl fun _ σ20 hσ20 => ?_
    refine J_bind fun x22 hx22 => ?_
    refine J_bind fun x23 hx23 => ?_
    refine J_bind fun w24 hw24 => ?_
    refine J_cl fun x26 σ25 hσ25 => ?_
    exact J_some (fun h => j_sw 72 rfl (by rw [h16]; decide) (by rw [h16]; decide) (j_aload_n rfl rfl (j_gfr rfl hx17 (j_aload_n rfl rfl (j_gfr rfl hx18 (j_v0 [.ref x17, .ref x18] [] rfl rfl rfl rfl rfl rfl hw19 (Or.inl rfl) (t_Ho_refresh (by omega) hσ20) (j_aload_n rfl rfl (j_gfr rfl hx22 (j_aload_n rfl rfl (j_gfr rfl hx23 (j_v1 [.ref x22, .ref x23] [] rfl rfl rfl rfl rfl rfl hw24 (Or.inl rfl) (t_Ho_countOf (by omega) hσ25) (j_iret rfl rfl h))))))))))))
  refine J_ite (fun h27 => ?_) (fun h27 => ?_)
  · refine J_bind fun x28 hx28 => ?_
    refine J_bind fun x29 hx29 => ?_
    exact J_some (fun h => j_sw 95 rfl (by rw [h27]; decide) (by rw [h27]; decide) (j_aload_n rfl rfl (j_gfr rfl hx28 (j_gfi rfl hx29 (j_iret rfl rfl h)))))
  refine J_ite (fun h30 => ?_) (fun h30 => ?_)
  · refine J_bind fun w31 hw31 => ?_
    refine J_cl fun x33 σ32 hσ32 => ?_
    exact J_some (fun h => j_sw 103 rfl (by rw [h30]; decide) (by rw [h30]; decide) (j_aload_n rfl rfl (j_v1 [.ref v0] [] rfl rfl rfl rfl rfl rfl hw31 (Or.inl rfl) (t_Rs_lawLines (by omega) hσ32) (j_iret rfl rfl h))))
  refine J_ite (fun h34 => ?_) (fun h34 => ?_)
  · refine J_bind fun x35 hx35 => ?_
    refine J_bind fun x36 hx36 => ?_
    exact J_some (fun h => j_sw 108 rfl (by rw [h34]; decide) (by rw [h34]; decide) (j_aload_n rfl rfl (j_gfr rfl hx35 (j_gfi rfl hx36 (j_iret rfl rfl h)))))
  refine J_ite (fun h37 => ?_) (fun h37 => ?_)
  · refine J_bind fun w38 hw38 => ?_
    refine J_cl fun x40 σ39 hσ39 => ?_
    exact J_some (fun h => j_sw 116 rfl (by rw [h37]; decide) (by rw [h37]; decide) (j_aload_n rfl rfl (j_v1 [.ref v0] [] rfl rfl rfl rfl rfl rfl hw38 (Or.inl rfl) (t_Rs_unfreeMarriages (by omega) hσ39) (j_iret rfl rfl h))))
  exact J_some (fun h => j_swd 121 rfl (q_swd_0_7 h1 h6 h11 h16 h27 h30 h34 h37) rfl (j_iconst (-1 : Int32) rfl k32_m1 (j_iret rfl rfl h)))
theorem t_Rs_count {fo : Option Nat} {d : Nat} (hd : 6 ≤ d) {v0 : Nat} {v1 : Int32} {σ σ1 : q_H} {r : Int32} (h : f_Rs_count v0 v1 σ = some (r, σ1)) : q_Rel (q_rf fo) q_Ms d 162 [.ref v0, .int v1] σ (.inl (some (.int r))) σ1 := by
  obtain ⟨d, rfl⟩ : ∃ d1, d = d1 + 1 := ⟨d - 1, by omega⟩
  exact q_Rel.of rfl rfl (b_Rs_count hd _ _ σ _ _ h ⟨rfl, rfl⟩)

def f_Sr_parseTags_L2 (v0 : Nat) (v1 : Int32) : Nat → Int32 → q_H → Option ((Int32 ⊕ Unit) × q_H)
  | 0, _, _ => none
  | n + 1, v2, σ => if (8 : Int32) < v2 then (some ((.inr ()), σ)) else ((q_gr (q_gf σ 7 v0 0)).bind fun x2 => (q_ob σ 1 x2).bind fun w3 => q_sq (f_Ta_advance x2 σ) fun (_ : Unit) σ4 => (q_gr (q_gf σ4 7 v0 0)).bind fun x6 => (q_ob σ4 1 x6).bind fun w7 => q_sq (f_Ta_isSign x6 (59 : Int32) σ4) fun x9 σ8 => if x9 = (0 : Int32) then ((q_gr (q_gf σ8 7 v0 0)).bind fun x11 => (q_gr (q_gf σ8 7 v0 1)).bind fun x12 => (q_ob σ8 1 x11).bind fun w13 => q_sq (f_Ta_wordIn x11 x12 σ8) fun x15 σ14 => q_sq (f_Rs_isFrom (0 : Int32) x15 (7 : Int32) σ14) fun x17 σ16 => if x17 = (0 : Int32) then ((q_gr (q_gf σ16 7 v0 0)).bind fun x19 => (q_ob σ16 1 x19).bind fun w20 => q_sq (f_Ta_fault x19 (1 : Int32) σ16) fun x22 σ21 => some ((.inl x22), σ21)) else ((q_ob σ16 7 v0).bind fun w23 => q_sq (f_Sr_parseTag v0 v1 x15 σ16) fun x25 σ24 => if x25 = (0 : Int32) then (f_Sr_parseTags_L2 v0 v1 n (v2 + (1 : Int32)) σ24) else (some ((.inl x25), σ24)))) else (some ((.inl (0 : Int32)), σ8)))
set_option maxRecDepth 100000 in
theorem l_Sr_parseTags_L2 {fo : Option Nat} {d : Nat} (hd : 7 ≤ d + 1) {o : q_O} {σ' : q_H} {E : (Int32 ⊕ Unit) → q_H → Prop} (v0 : Nat) (v1 : Int32) (hR : ∀ r σ1, E (.inl r) σ1 → o = .inl (some (.int r)) ∧ σ' = σ1) (hX : ∀ (t : Unit) σ1, E (.inr t) σ1 → q_G (q_rf fo) d m_Sr_parseTags o σ' 82 [some (.ref v0), none, none, none, none] [] σ1)  : ∀ (n : Nat) (v2 : Int32) (σ : q_H), q_J E (f_Sr_parseTags_L2 v0 v1 n v2 σ) (q_G (q_rf fo) d m_Sr_parseTags o σ' 2 [some (.ref v0), some (.int v1), some (.int v2), none, none] [] σ)
  | 0, v2, σ => J_none
  | n + 1, v2, σ => by
    unfold f_Sr_parseTags_L2
    refine q_J.step (fun g => j_iload_n rfl rfl (j_bipush (8 : Int32) rfl kb_8 (g))) ?_
    refine J_ite (fun h1 => ?_) (fun h1 => ?_)
    · exact J_some (fun h => j_icmp_t rfl (cc_gt_t h1) (j_weak (l := [some (.ref v0), none, none, none, none]) (And.intro (Or.inr rfl) (And.intro (Or.inl rfl) (And.intro (Or.inl rfl) (And.intro (Or.inr rfl) (And.intro (Or.inr rfl) True.intro))))) (hX _ _ h)))
    refine J_bind fun x2 hx2 => ?_
    refine J_bind fun w3 hw3 => ?_
    refine J_cl fun _ σ4 hσ4 => ?_
    refine J_bind fun x6 hx6 => ?_
    refine J_bind fun w7 hw7 => ?_
    refine J_cl fun x9 σ8 hσ8 => ?_
    refine q_J.step (fun g => j_icmp_f rfl (cc_gt_f h1) (j_aload_n rfl rfl (j_gfr rfl hx2 (j_v0 [.ref x2] [] rfl rfl rfl rfl rfl rfl hw3 (Or.inl rfl) (t_Ta_advance (by omega) hσ4) (j_aload_n rfl rfl (j_gfr rfl hx6 (j_bipush (59 : Int32) rfl kb_59 (j_v1 [.ref x6, .int (59 : Int32)] [] rfl rfl rfl rfl rfl rfl hw7 (Or.inl rfl) (t_Ta_isSign (by omega) hσ8) (g))))))))) ?_
    refine J_ite (fun h10 => ?_) (fun h10 => ?_)
    · refine J_bind fun x11 hx11 => ?_
      refine J_bind fun x12 hx12 => ?_
      refine J_bind fun w13 hw13 => ?_
      refine J_cl fun x15 σ14 hσ14 => ?_
      refine J_cl fun x17 σ16 hσ16 => ?_
      refine q_J.step (fun g => j_if_t rfl (cc_eq_t h10) (j_aload_n rfl rfl (j_gfr rfl hx11 (j_aload_n rfl rfl (j_gfr rfl hx12 (j_v1 [.ref x11, .ref x12] [] rfl rfl rfl rfl rfl rfl hw13 (Or.inl rfl) (t_Ta_wordIn (by omega) hσ14) (j_istore_n [some (.ref v0), some (.int v1), some (.int v2), some (.int x15), none] rfl rfl (Or.inr rfl) rfl (j_iconst (0 : Int32) rfl k32_0 (j_iload_n rfl rfl (j_bipush (7 : Int32) rfl kb_7 (j_s1 [.int (0 : Int32), .int x15, .int (7 : Int32)] [] rfl rfl rfl rfl rfl (t_Rs_isFrom (by omega) hσ16) (g)))))))))))) ?_
      refine J_ite (fun h18 => ?_) (fun h18 => ?_)
      · refine J_bind fun x19 hx19 => ?_
        refine J_bind fun w20 hw20 => ?_
        refine J_cl fun x22 σ21 hσ21 => ?_
        exact J_some (fun h => j_if_f rfl (cc_ne_f h18) (j_aload_n rfl rfl (j_gfr rfl hx19 (j_iconst (1 : Int32) rfl k32_1 (j_v1 [.ref x19, .int (1 : Int32)] [] rfl rfl rfl rfl rfl rfl hw20 (Or.inl rfl) (t_Ta_fault (by omega) hσ21) (j_iret rfl rfl (hR _ _ h)))))))
      refine J_bind fun w23 hw23 => ?_
      refine J_cl fun x25 σ24 hσ24 => ?_
      refine q_J.step (fun g => j_if_t rfl (cc_ne_t h18) (j_aload_n rfl rfl (j_iload_n rfl rfl (j_iload_n rfl rfl (j_v1 [.ref v0, .int v1, .int x15] [] rfl rfl rfl rfl rfl rfl hw23 (Or.inl rfl) (t_Sr_parseTag (by omega) hσ24) (j_istore [some (.ref v0), some (.int v1), some (.int v2), some (.int x15), some (.int x25)] rfl rfl (Or.inr rfl) rfl (j_iload rfl rfl (g)))))))) ?_
      refine J_ite (fun h26 => ?_) (fun h26 => ?_)
      · exact q_J.step (fun g => j_if_t rfl (cc_eq_t h26) (j_iinc [some (.ref v0), some (.int v1), some (.int (v2 + (1 : Int32))), some (.int x15), some (.int x25)] (v2 + (1 : Int32)) rfl rfl (by rw [k32_1]) (Or.inr rfl) rfl (j_goto rfl (j_weak (l := [some (.ref v0), some (.int v1), some (.int (v2 + (1 : Int32))), none, none]) (And.intro (Or.inr rfl) (And.intro (Or.inr rfl) (And.intro (Or.inr rfl) (And.intro (Or.inl rfl) (And.intro (Or.inl rfl) True.intro))))) (g))))) (l_Sr_parseTags_L2 hd v0 v1 hR hX n (v2 + (1 : Int32)) σ24)
      exact J_some (fun h => j_if_f rfl (cc_eq_f h26) (j_iload rfl rfl (j_iret rfl rfl (hR _ _ h))))
    exact J_some (fun h => j_if_f rfl (cc_eq_f h10) (j_iconst (0 : Int32) rfl k32_0 (j_iret rfl rfl (hR _ _ h))))

def f_Sr_parseTags (v0 : Nat) (v1 : Int32) (σ : q_H) : Option ((Int32) × q_H) := q_sq (f_Sr_parseTags_L2 v0 v1 q_FU (0 : Int32) σ) fun (t0 : Int32 ⊕ Unit) σ28 => match t0 with | .inl r33 => some (r33, σ28) | .inr t27 => ((q_gr (q_gf σ28 7 v0 0)).bind fun x29 => (q_ob σ28 1 x29).bind fun w30 => q_sq (f_Ta_fault x29 (3 : Int32) σ28) fun x32 σ31 => some (x32, σ31))
set_option maxRecDepth 100000 in
theorem b_Sr_parseTags {fo : Option Nat} {d : Nat} (hd : 7 ≤ d + 1) {o : q_O} {σ' : q_H} (v0 : Nat) (v1 : Int32) (σ : q_H) : q_J (fun (r : Int32) (σ1 : q_H) => o = .inl (some (.int r)) ∧ σ' = σ1) (f_Sr_parseTags v0 v1 σ) (q_G (q_rf fo) d m_Sr_parseTags o σ' 0 [some (.ref v0), some (.int v1), none, none, none] [] σ) := by
  unfold f_Sr_parseTags
  refine J_sq (fun (t0 : Int32 ⊕ Unit) (σ28 : q_H) => match t0 with | .inl r => o = .inl (some (.int r)) ∧ σ' = σ28 | .inr t27 => q_G (q_rf fo) d m_Sr_parseTags o σ' 82 [some (.ref v0), none, none, none, none] [] σ28) (q_J.step (fun g => j_iconst (0 : Int32) rfl k32_0 (j_istore_n [some (.ref v0), some (.int v1), some (.int (0 : Int32)), none, none] rfl rfl (Or.inr rfl) rfl (g))) (l_Sr_parseTags_L2 hd v0 v1 (fun _ _ h => h) (fun _ _ h => h) q_FU (0 : Int32) σ)) (fun t0 σ28 => ?_)
  cases t0 with
  | inl r33 => exact J_some (fun h => h)
  | inr t27 =>
    refine J_bind fun x29 hx29 => ?_
    refine J_bind fun w30 hw30 => ?_
    refine J_cl fun x32 σ31 hσ31 => ?_
    exact J_some (fun h => j_aload_n rfl rfl (j_gfr rfl hx29 (j_iconst (3 : Int32) rfl k32_3 (j_v1 [.ref x29, .int (3 : Int32)] [] rfl rfl rfl rfl rfl rfl hw30 (Or.inl rfl) (t_Ta_fault (by omega) hσ31) (j_iret rfl rfl h)))))
theorem t_Sr_parseTags {fo : Option Nat} {d : Nat} (hd : 7 ≤ d) {v0 : Nat} {v1 : Int32} {σ σ1 : q_H} {r : Int32} (h : f_Sr_parseTags v0 v1 σ = some (r, σ1)) : q_Rel (q_rf fo) q_Ms d 76 [.ref v0, .int v1] σ (.inl (some (.int r))) σ1 := by
  obtain ⟨d, rfl⟩ : ∃ d1, d = d1 + 1 := ⟨d - 1, by omega⟩
  exact q_Rel.of rfl rfl (b_Sr_parseTags hd _ _ σ _ _ h ⟨rfl, rfl⟩)

def f_Rs_left (v0 : Nat) (v1 : Int32) (v2 : Int32) (v3 : Int32) (σ : q_H) : Option ((Int32) × q_H) := q_sq (f_Rs_isFrom (0 : Int32) v2 (1 : Int32) σ) fun x2 σ1 => if x2 = (0 : Int32) then (some ((-1 : Int32), σ1)) else (q_sq (f_Rs_isFrom (0 : Int32) v3 (1 : Int32) σ1) fun x5 σ4 => if x5 = (0 : Int32) then (some ((-1 : Int32), σ4)) else (if v1 = (-1 : Int32) then ((q_ob σ4 0 v0).bind fun w8 => q_sq (f_Rs_leftOfAll v0 v2 v3 σ4) fun x10 σ9 => some (x10, σ9)) else ((q_gr (q_gf σ4 0 v0 3)).bind fun x11 => (q_ob σ4 2 x11).bind fun w12 => q_sq (f_Sf_pageOf x11 v1 σ4) fun x14 σ13 => match x14 with | none => (some ((-1 : Int32), σ13)) | some a15 => ((q_gr (q_gf σ13 0 v0 6)).bind fun x16 => (q_gr (q_gf σ13 0 v0 3)).bind fun x17 => (q_ob σ13 3 x16).bind fun w18 => q_sq (f_Ho_refresh x16 x17 σ13) fun (_ : Unit) σ19 => (q_gr (q_gf σ19 0 v0 6)).bind fun x21 => (q_ob σ19 3 x21).bind fun w22 => q_sq (f_Ho_leftOf x21 v1 v2 v3 σ19) fun x24 σ23 => some (x24, σ23)))))
set_option maxRecDepth 100000 in
theorem b_Rs_left {fo : Option Nat} {d : Nat} (hd : 7 ≤ d + 1) {o : q_O} {σ' : q_H} (v0 : Nat) (v1 : Int32) (v2 : Int32) (v3 : Int32) (σ : q_H) : q_J (fun (r : Int32) (σ1 : q_H) => o = .inl (some (.int r)) ∧ σ' = σ1) (f_Rs_left v0 v1 v2 v3 σ) (q_G (q_rf fo) d m_Rs_left o σ' 0 [some (.ref v0), some (.int v1), some (.int v2), some (.int v3)] [] σ) := by
  unfold f_Rs_left
  refine J_cl fun x2 σ1 hσ1 => ?_
  refine q_J.step (fun g => j_iconst (0 : Int32) rfl k32_0 (j_iload_n rfl rfl (j_iconst (1 : Int32) rfl k32_1 (j_s1 [.int (0 : Int32), .int v2, .int (1 : Int32)] [] rfl rfl rfl rfl rfl (t_Rs_isFrom (by omega) hσ1) (g))))) ?_
  refine J_ite (fun h3 => ?_) (fun h3 => ?_)
  · exact J_some (fun h => j_if_t rfl (cc_eq_t h3) (j_iconst (-1 : Int32) rfl k32_m1 (j_iret rfl rfl h)))
  refine J_cl fun x5 σ4 hσ4 => ?_
  refine q_J.step (fun g => j_if_f rfl (cc_eq_f h3) (j_iconst (0 : Int32) rfl k32_0 (j_iload_n rfl rfl (j_iconst (1 : Int32) rfl k32_1 (j_s1 [.int (0 : Int32), .int v3, .int (1 : Int32)] [] rfl rfl rfl rfl rfl (t_Rs_isFrom (by omega) hσ4) (g)))))) ?_
  refine J_ite (fun h6 => ?_) (fun h6 => ?_)
  · exact J_some (fun h => j_if_f rfl (cc_ne_f h6) (j_iconst (-1 : Int32) rfl k32_m1 (j_iret rfl rfl h)))
  refine q_J.step (fun g => j_if_t rfl (cc_ne_t h6) (j_iload_n rfl rfl (j_iconst (-1 : Int32) rfl k32_m1 (g)))) ?_
  refine J_ite (fun h7 => ?_) (fun h7 => ?_)
  · refine J_bind fun w8 hw8 => ?_
    refine J_cl fun x10 σ9 hσ9 => ?_
    exact J_some (fun h => j_icmp_f rfl (cc_ne_f h7) (j_aload_n rfl rfl (j_iload_n rfl rfl (j_iload_n rfl rfl (j_v1 [.ref v0, .int v2, .int v3] [] rfl rfl rfl rfl rfl rfl hw8 (Or.inl rfl) (t_Rs_leftOfAll (by omega) hσ9) (j_iret rfl rfl h))))))
  refine J_bind fun x11 hx11 => ?_
  refine J_bind fun w12 hw12 => ?_
  refine J_cl fun x14 σ13 hσ13 => ?_
  refine q_J.step (fun g => j_icmp_t rfl (cc_ne_t h7) (j_aload_n rfl rfl (j_gfr rfl hx11 (j_iload_n rfl rfl (j_v1 [.ref x11, .int v1] [] rfl rfl rfl rfl rfl rfl hw12 (Or.inl rfl) (t_Sf_pageOf (by omega) hσ13) (g)))))) ?_
  cases ha15 : x14 with
  | none =>
    try subst ha15
    exact J_some (fun h => j_non_f rfl (j_iconst (-1 : Int32) rfl k32_m1 (j_iret rfl rfl h)))
  | some a15 =>
    try subst ha15
    refine J_bind fun x16 hx16 => ?_
    refine J_bind fun x17 hx17 => ?_
    refine J_bind fun w18 hw18 => ?_
    refine J_cl fun _ σ19 hσ19 => ?_
    refine J_bind fun x21 hx21 => ?_
    refine J_bind fun w22 hw22 => ?_
    refine J_cl fun x24 σ23 hσ23 => ?_
    exact J_some (fun h => j_non_t rfl (j_aload_n rfl rfl (j_gfr rfl hx16 (j_aload_n rfl rfl (j_gfr rfl hx17 (j_v0 [.ref x16, .ref x17] [] rfl rfl rfl rfl rfl rfl hw18 (Or.inl rfl) (t_Ho_refresh (by omega) hσ19) (j_aload_n rfl rfl (j_gfr rfl hx21 (j_iload_n rfl rfl (j_iload_n rfl rfl (j_iload_n rfl rfl (j_v1 [.ref x21, .int v1, .int v2, .int v3] [] rfl rfl rfl rfl rfl rfl hw22 (Or.inl rfl) (t_Ho_leftOf (by omega) hσ23) (j_iret rfl rfl h)))))))))))))
theorem t_Rs_left {fo : Option Nat} {d : Nat} (hd : 7 ≤ d) {v0 : Nat} {v1 : Int32} {v2 : Int32} {v3 : Int32} {σ σ1 : q_H} {r : Int32} (h : f_Rs_left v0 v1 v2 v3 σ = some (r, σ1)) : q_Rel (q_rf fo) q_Ms d 130 [.ref v0, .int v1, .int v2, .int v3] σ (.inl (some (.int r))) σ1 := by
  obtain ⟨d, rfl⟩ : ∃ d1, d = d1 + 1 := ⟨d - 1, by omega⟩
  exact q_Rel.of rfl rfl (b_Rs_left hd _ _ _ _ σ _ _ h ⟨rfl, rfl⟩)

def f_Rs_young_L46 (v0 : Nat) (v1 : Int32) (v2 : Int32) (v4 : Int32) (v5 : Option Nat) : Nat → Int32 → Int32 → q_H → Option ((Int32) × q_H)
  | 0, _, _, _ => none
  | n + 1, v3, v6, σ => match v5 with | none => (some (v3, σ)) | some a12 => ((q_gi (q_gf σ 8 a12 0)).bind fun x13 => if v6 < x13 then ((q_gr (q_gf σ 8 a12 4)).bind fun x15 => (q_gi (q_ga σ 22 x15 v6)).bind fun x16 => q_sq (if v1 = (1 : Int32) then (some ((1 : Int32), σ)) else (some ((0 : Int32), σ))) fun (t18 : Int32) σ19 => if x16 = t18 then ((q_gr (q_gf σ19 8 a12 5)).bind fun x21 => (q_gi (q_ga σ19 20 x21 v6)).bind fun x22 => if (14 : Int32) < x22 then (f_Rs_young_L46 v0 v1 v2 v4 v5 n (v3 + (0 : Int32)) (v6 + (1 : Int32)) σ19) else (f_Rs_young_L46 v0 v1 v2 v4 v5 n (v3 + (1 : Int32)) (v6 + (1 : Int32)) σ19)) else (f_Rs_young_L46 v0 v1 v2 v4 v5 n (v3 + (0 : Int32)) (v6 + (1 : Int32)) σ19)) else (some (v3, σ)))
set_option maxRecDepth 100000 in
theorem l_Rs_young_L46 {fo : Option Nat} {d : Nat} (hd : 7 ≤ d + 1) {o : q_O} {σ' : q_H} {E : (Int32) → q_H → Prop} (v0 : Nat) (v1 : Int32) (v2 : Int32) (v4 : Int32) (v5 : Option Nat) (hX : ∀ (t : Int32) σ1, E (t) σ1 → q_G (q_rf fo) d m_Rs_young o σ' 109 [some (.ref v0), some (.int v1), some (.int v2), some (.int t), some (.int v4), none, none] [] σ1)  : ∀ (n : Nat) (v3 : Int32) (v6 : Int32) (σ : q_H), q_J E (f_Rs_young_L46 v0 v1 v2 v4 v5 n v3 v6 σ) (q_G (q_rf fo) d m_Rs_young o σ' 46 [some (.ref v0), some (.int v1), some (.int v2), some (.int v3), some (.int v4), some (q_rf v5), some (.int v6)] [] σ)
  | 0, v3, v6, σ => J_none
  | n + 1, v3, v6, σ => by
    unfold f_Rs_young_L46
    refine q_J.step (fun g => j_aloadO (x := v5) rfl rfl (g)) ?_
    cases ha12 : v5 with
    | none =>
      try subst ha12
      exact J_some (fun h => j_nul_t rfl (j_weak (l := [some (.ref v0), some (.int v1), some (.int v2), some (.int v3), some (.int v4), none, none]) (And.intro (Or.inr rfl) (And.intro (Or.inr rfl) (And.intro (Or.inr rfl) (And.intro (Or.inr rfl) (And.intro (Or.inr rfl) (And.intro (Or.inl rfl) (And.intro (Or.inl rfl) True.intro))))))) (hX _ _ h)))
    | some a12 =>
      try subst ha12
      refine J_bind fun x13 hx13 => ?_
      refine q_J.step (fun g => j_nul_f rfl (j_iload rfl rfl (j_aload rfl rfl (j_gfi rfl hx13 (g))))) ?_
      refine J_ite (fun h14 => ?_) (fun h14 => ?_)
      · refine J_bind fun x15 hx15 => ?_
        refine J_bind fun x16 hx16 => ?_
        refine q_J.step (fun g => j_icmp_f rfl (cc_ge_f h14) (j_iload_n rfl rfl (j_aload rfl rfl (j_gfr rfl hx15 (j_iload rfl rfl (j_bal rfl rfl hx16 (j_iload_n rfl rfl (j_iconst (1 : Int32) rfl k32_1 (g))))))))) ?_
        refine J_sq (fun (t18 : Int32) (σ19 : q_H) => q_G (q_rf fo) d m_Rs_young o σ' 80 [some (.ref v0), some (.int v1), some (.int v2), none, some (.int v4), some (.ref a12), some (.int v6)] [.int t18, .int x16, .int v3] σ19) ?_ (fun t18 σ19 => ?_)
        · refine J_ite (fun h17 => ?_) (fun h17 => ?_)
          · exact J_some (fun h => j_icmp_f rfl (cc_ne_f h17) (j_iconst (1 : Int32) rfl k32_1 (j_goto rfl (j_weak (l := [some (.ref v0), some (.int v1), some (.int v2), none, some (.int v4), some (.ref a12), some (.int v6)]) (And.intro (Or.inr rfl) (And.intro (Or.inr rfl) (And.intro (Or.inr rfl) (And.intro (Or.inl rfl) (And.intro (Or.inr rfl) (And.intro (Or.inr rfl) (And.intro (Or.inr rfl) True.intro))))))) (h)))))
          exact J_some (fun h => j_icmp_t rfl (cc_ne_t h17) (j_iconst (0 : Int32) rfl k32_0 (j_weak (l := [some (.ref v0), some (.int v1), some (.int v2), none, some (.int v4), some (.ref a12), some (.int v6)]) (And.intro (Or.inr rfl) (And.intro (Or.inr rfl) (And.intro (Or.inr rfl) (And.intro (Or.inl rfl) (And.intro (Or.inr rfl) (And.intro (Or.inr rfl) (And.intro (Or.inr rfl) True.intro))))))) (h))))
        refine J_ite (fun h20 => ?_) (fun h20 => ?_)
        · refine J_bind fun x21 hx21 => ?_
          refine J_bind fun x22 hx22 => ?_
          refine q_J.step (fun g => j_icmp_f rfl (cc_ne_f h20) (j_aload rfl rfl (j_gfr rfl hx21 (j_iload rfl rfl (j_ial rfl hx22 (j_bipush (14 : Int32) rfl kb_14 (g))))))) ?_
          refine J_ite (fun h23 => ?_) (fun h23 => ?_)
          · exact q_J.step (fun g => j_icmp_t rfl (cc_gt_t h23) (j_iconst (0 : Int32) rfl k32_0 (j_iadd rfl (j_istore_n [some (.ref v0), some (.int v1), some (.int v2), some (.int (v3 + (0 : Int32))), some (.int v4), some (.ref a12), some (.int v6)] rfl rfl (Or.inr rfl) rfl (j_iinc [some (.ref v0), some (.int v1), some (.int v2), some (.int (v3 + (0 : Int32))), some (.int v4), some (.ref a12), some (.int (v6 + (1 : Int32)))] (v6 + (1 : Int32)) rfl rfl (by rw [k32_1]) (Or.inr rfl) rfl (j_goto rfl (g))))))) (l_Rs_young_L46 hd v0 v1 v2 v4 (some a12) hX n (v3 + (0 : Int32)) (v6 + (1 : Int32)) σ19)
          exact q_J.step (fun g => j_icmp_f rfl (cc_gt_f h23) (j_iconst (1 : Int32) rfl k32_1 (j_goto rfl (j_iadd rfl (j_istore_n [some (.ref v0), some (.int v1), some (.int v2), some (.int (v3 + (1 : Int32))), some (.int v4), some (.ref a12), some (.int v6)] rfl rfl (Or.inr rfl) rfl (j_iinc [some (.ref v0), some (.int v1), some (.int v2), some (.int (v3 + (1 : Int32))), some (.int v4), some (.ref a12), some (.int (v6 + (1 : Int32)))] (v6 + (1 : Int32)) rfl rfl (by rw [k32_1]) (Or.inr rfl) rfl (j_goto rfl (g)))))))) (l_Rs_young_L46 hd v0 v1 v2 v4 (some a12) hX n (v3 + (1 : Int32)) (v6 + (1 : Int32)) σ19)
        exact q_J.step (fun g => j_icmp_t rfl (cc_ne_t h20) (j_iconst (0 : Int32) rfl k32_0 (j_iadd rfl (j_istore_n [some (.ref v0), some (.int v1), some (.int v2), some (.int (v3 + (0 : Int32))), some (.int v4), some (.ref a12), some (.int v6)] rfl rfl (Or.inr rfl) rfl (j_iinc [some (.ref v0), some (.int v1), some (.int v2), some (.int (v3 + (0 : Int32))), some (.int v4), some (.ref a12), some (.int (v6 + (1 : Int32)))] (v6 + (1 : Int32)) rfl rfl (by rw [k32_1]) (Or.inr rfl) rfl (j_goto rfl (g))))))) (l_Rs_young_L46 hd v0 v1 v2 v4 (some a12) hX n (v3 + (0 : Int32)) (v6 + (1 : Int32)) σ19)
      exact J_some (fun h => j_icmp_t rfl (cc_ge_t h14) (j_weak (l := [some (.ref v0), some (.int v1), some (.int v2), some (.int v3), some (.int v4), none, none]) (And.intro (Or.inr rfl) (And.intro (Or.inr rfl) (And.intro (Or.inr rfl) (And.intro (Or.inr rfl) (And.intro (Or.inr rfl) (And.intro (Or.inl rfl) (And.intro (Or.inl rfl) True.intro))))))) (hX _ _ h)))

def f_Rs_young_L25 (v0 : Nat) (v1 : Int32) (v2 : Int32) : Nat → Int32 → Int32 → q_H → Option ((Int32) × q_H)
  | 0, _, _, _ => none
  | n + 1, v3, v4, σ => if v4 < (24 : Int32) then ((q_gr (q_gf σ 0 v0 3)).bind fun x8 => (q_ob σ 2 x8).bind fun w9 => q_sq (f_Sf_pageOf x8 v4 σ) fun x11 σ10 => q_sq (f_Rs_young_L46 v0 v1 v2 v4 x11 q_FU v3 (0 : Int32) σ10) fun (t24 : Int32) σ25 => f_Rs_young_L25 v0 v1 v2 n t24 (v4 + (1 : Int32)) σ25) else (some (v3, σ))
set_option maxRecDepth 100000 in
theorem l_Rs_young_L25 {fo : Option Nat} {d : Nat} (hd : 7 ≤ d + 1) {o : q_O} {σ' : q_H} {E : (Int32) → q_H → Prop} (v0 : Nat) (v1 : Int32) (v2 : Int32) (hX : ∀ (t : Int32) σ1, E (t) σ1 → q_G (q_rf fo) d m_Rs_young o σ' 115 [some (.ref v0), some (.int v1), some (.int v2), some (.int t), none, none, none] [] σ1)  : ∀ (n : Nat) (v3 : Int32) (v4 : Int32) (σ : q_H), q_J E (f_Rs_young_L25 v0 v1 v2 n v3 v4 σ) (q_G (q_rf fo) d m_Rs_young o σ' 25 [some (.ref v0), some (.int v1), some (.int v2), some (.int v3), some (.int v4), none, none] [] σ)
  | 0, v3, v4, σ => J_none
  | n + 1, v3, v4, σ => by
    unfold f_Rs_young_L25
    refine q_J.step (fun g => j_iload rfl rfl (j_bipush (24 : Int32) rfl kb_24 (g))) ?_
    refine J_ite (fun h7 => ?_) (fun h7 => ?_)
    · refine J_bind fun x8 hx8 => ?_
      refine J_bind fun w9 hw9 => ?_
      refine J_cl fun x11 σ10 hσ10 => ?_
      refine J_sq (fun (t24 : Int32) (σ25 : q_H) => q_G (q_rf fo) d m_Rs_young o σ' 109 [some (.ref v0), some (.int v1), some (.int v2), some (.int t24), some (.int v4), none, none] [] σ25) (q_J.step (fun g => j_icmp_f rfl (cc_ge_f h7) (j_aload_n rfl rfl (j_gfr rfl hx8 (j_iload rfl rfl (j_v1 [.ref x8, .int v4] [] rfl rfl rfl rfl rfl rfl hw9 (Or.inl rfl) (t_Sf_pageOf (by omega) hσ10) (j_astoreO (x := x11) [some (.ref v0), some (.int v1), some (.int v2), some (.int v3), some (.int v4), some (q_rf x11), none] rfl rfl (Or.inr rfl) rfl (j_iconst (0 : Int32) rfl k32_0 (j_istore [some (.ref v0), some (.int v1), some (.int v2), some (.int v3), some (.int v4), some (q_rf x11), some (.int (0 : Int32))] rfl rfl (Or.inr (q_rf_cat _)) rfl (g))))))))) (l_Rs_young_L46 hd v0 v1 v2 v4 x11 (fun _ _ h => h) q_FU v3 (0 : Int32) σ10)) (fun t24 σ25 => ?_)
      exact q_J.step (fun g => j_iinc [some (.ref v0), some (.int v1), some (.int v2), some (.int t24), some (.int (v4 + (1 : Int32))), none, none] (v4 + (1 : Int32)) rfl rfl (by rw [k32_1]) (Or.inr rfl) rfl (j_goto rfl (g))) (l_Rs_young_L25 hd v0 v1 v2 hX n t24 (v4 + (1 : Int32)) σ25)
    exact J_some (fun h => j_icmp_t rfl (cc_ge_t h7) (j_weak (l := [some (.ref v0), some (.int v1), some (.int v2), some (.int v3), none, none, none]) (And.intro (Or.inr rfl) (And.intro (Or.inr rfl) (And.intro (Or.inr rfl) (And.intro (Or.inr rfl) (And.intro (Or.inl rfl) (And.intro (Or.inr rfl) (And.intro (Or.inr rfl) True.intro))))))) (hX _ _ h)))

def f_Rs_young (v0 : Nat) (v1 : Int32) (v2 : Int32) (σ : q_H) : Option ((Int32) × q_H) := q_sq (f_Rs_isFrom (0 : Int32) v1 (1 : Int32) σ) fun x2 σ1 => if x2 = (0 : Int32) then (some ((-1 : Int32), σ1)) else (q_sq (f_Rs_isFrom (0 : Int32) v2 (2 : Int32) σ1) fun x5 σ4 => if x5 = (0 : Int32) then (some ((-1 : Int32), σ4)) else (q_sq (f_Rs_young_L25 v0 v1 v2 q_FU (0 : Int32) (0 : Int32) σ4) fun (t26 : Int32) σ27 => q_sq (if v2 < (1 : Int32) then (some (t26, σ27)) else ((q_ob σ27 0 v0).bind fun w29 => q_sq (f_Rs_leftOfAll v0 v1 (0 : Int32) σ27) fun x31 σ30 => some ((t26 + x31), σ30))) fun (t32 : Int32) σ33 => if v2 = (2 : Int32) then ((q_ob σ33 0 v0).bind fun w35 => q_sq (f_Rs_leftOfAll v0 v1 (1 : Int32) σ33) fun x37 σ36 => some ((t32 + x37), σ36)) else (some (t32, σ33))))
set_option maxRecDepth 100000 in
theorem b_Rs_young {fo : Option Nat} {d : Nat} (hd : 7 ≤ d + 1) {o : q_O} {σ' : q_H} (v0 : Nat) (v1 : Int32) (v2 : Int32) (σ : q_H) : q_J (fun (r : Int32) (σ1 : q_H) => o = .inl (some (.int r)) ∧ σ' = σ1) (f_Rs_young v0 v1 v2 σ) (q_G (q_rf fo) d m_Rs_young o σ' 0 [some (.ref v0), some (.int v1), some (.int v2), none, none, none, none] [] σ) := by
  unfold f_Rs_young
  refine J_cl fun x2 σ1 hσ1 => ?_
  refine q_J.step (fun g => j_iconst (0 : Int32) rfl k32_0 (j_iload_n rfl rfl (j_iconst (1 : Int32) rfl k32_1 (j_s1 [.int (0 : Int32), .int v1, .int (1 : Int32)] [] rfl rfl rfl rfl rfl (t_Rs_isFrom (by omega) hσ1) (g))))) ?_
  refine J_ite (fun h3 => ?_) (fun h3 => ?_)
  · exact J_some (fun h => j_if_t rfl (cc_eq_t h3) (j_iconst (-1 : Int32) rfl k32_m1 (j_iret rfl rfl h)))
  refine J_cl fun x5 σ4 hσ4 => ?_
  refine q_J.step (fun g => j_if_f rfl (cc_eq_f h3) (j_iconst (0 : Int32) rfl k32_0 (j_iload_n rfl rfl (j_iconst (2 : Int32) rfl k32_2 (j_s1 [.int (0 : Int32), .int v2, .int (2 : Int32)] [] rfl rfl rfl rfl rfl (t_Rs_isFrom (by omega) hσ4) (g)))))) ?_
  refine J_ite (fun h6 => ?_) (fun h6 => ?_)
  · exact J_some (fun h => j_if_f rfl (cc_ne_f h6) (j_iconst (-1 : Int32) rfl k32_m1 (j_iret rfl rfl h)))
  refine J_sq (fun (t26 : Int32) (σ27 : q_H) => q_G (q_rf fo) d m_Rs_young o σ' 115 [some (.ref v0), some (.int v1), some (.int v2), some (.int t26), none, none, none] [] σ27) (q_J.step (fun g => j_if_t rfl (cc_ne_t h6) (j_iconst (0 : Int32) rfl k32_0 (j_istore_n [some (.ref v0), some (.int v1), some (.int v2), some (.int (0 : Int32)), none, none, none] rfl rfl (Or.inr rfl) rfl (j_iconst (0 : Int32) rfl k32_0 (j_istore [some (.ref v0), some (.int v1), some (.int v2), some (.int (0 : Int32)), some (.int (0 : Int32)), none, none] rfl rfl (Or.inr rfl) rfl (g)))))) (l_Rs_young_L25 hd v0 v1 v2 (fun _ _ h => h) q_FU (0 : Int32) (0 : Int32) σ4)) (fun t26 σ27 => ?_)
  refine q_J.step (fun g => j_iload_n rfl rfl (j_iconst (1 : Int32) rfl k32_1 (g))) ?_
  refine J_sq (fun (t32 : Int32) (σ33 : q_H) => q_G (q_rf fo) d m_Rs_young o σ' 129 [some (.ref v0), some (.int v1), some (.int v2), some (.int t32), none, none, none] [] σ33) ?_ (fun t32 σ33 => ?_)
  · refine J_ite (fun h28 => ?_) (fun h28 => ?_)
    · exact J_some (fun h => j_icmp_t rfl (cc_lt_t h28) (h))
    refine J_bind fun w29 hw29 => ?_
    refine J_cl fun x31 σ30 hσ30 => ?_
    exact J_some (fun h => j_icmp_f rfl (cc_lt_f h28) (j_iload_n rfl rfl (j_aload_n rfl rfl (j_iload_n rfl rfl (j_iconst (0 : Int32) rfl k32_0 (j_v1 [.ref v0, .int v1, .int (0 : Int32)] [.int t26] rfl rfl rfl rfl rfl rfl hw29 (Or.inl rfl) (t_Rs_leftOfAll (by omega) hσ30) (j_iadd rfl (j_istore_n [some (.ref v0), some (.int v1), some (.int v2), some (.int (t26 + x31)), none, none, none] rfl rfl (Or.inr rfl) rfl (h)))))))))
  refine q_J.step (fun g => j_iload_n rfl rfl (j_iconst (2 : Int32) rfl k32_2 (g))) ?_
  refine J_ite (fun h34 => ?_) (fun h34 => ?_)
  · refine J_bind fun w35 hw35 => ?_
    refine J_cl fun x37 σ36 hσ36 => ?_
    exact J_some (fun h => j_icmp_f rfl (cc_ne_f h34) (j_iload_n rfl rfl (j_aload_n rfl rfl (j_iload_n rfl rfl (j_iconst (1 : Int32) rfl k32_1 (j_v1 [.ref v0, .int v1, .int (1 : Int32)] [.int t32] rfl rfl rfl rfl rfl rfl hw35 (Or.inl rfl) (t_Rs_leftOfAll (by omega) hσ36) (j_iadd rfl (j_goto rfl (j_iret rfl rfl h)))))))))
  exact J_some (fun h => j_icmp_t rfl (cc_ne_t h34) (j_iload_n rfl rfl (j_iret rfl rfl h)))
theorem t_Rs_young {fo : Option Nat} {d : Nat} (hd : 7 ≤ d) {v0 : Nat} {v1 : Int32} {v2 : Int32} {σ σ1 : q_H} {r : Int32} (h : f_Rs_young v0 v1 v2 σ = some (r, σ1)) : q_Rel (q_rf fo) q_Ms d 160 [.ref v0, .int v1, .int v2] σ (.inl (some (.int r))) σ1 := by
  obtain ⟨d, rfl⟩ : ∃ d1, d = d1 + 1 := ⟨d - 1, by omega⟩
  exact q_Rel.of rfl rfl (b_Rs_young hd _ _ _ σ _ _ h ⟨rfl, rfl⟩)

def f_Rs_line (v0 : Nat) (v1 : Int32) (v2 : Int32) (v3 : Int32) (σ : q_H) : Option ((Option Int32) × q_H) := (q_gr (q_gf σ 0 v0 3)).bind fun x1 => (q_ob σ 2 x1).bind fun w2 => q_sq (f_Sf_pageOf x1 v1 σ) fun x4 σ3 => match x4 with | none => (some (none, q_th σ3)) | some a5 => ((q_ob σ3 8 a5).bind fun w6 => q_sq (f_Pa_has a5 v2 σ3) fun x8 σ7 => if x8 = (0 : Int32) then (some (none, q_th σ7)) else (q_sq (f_Rs_isFrom (0 : Int32) v3 (5 : Int32) σ7) fun x11 σ10 => if x11 = (0 : Int32) then (some (none, q_th σ10)) else (if v3 = (0 : Int32) then ((q_gr (q_gf σ10 8 a5 4)).bind fun x14 => (q_gi (q_ga σ10 22 x14 v2)).bind fun x15 => if x15 = (0 : Int32) then (some (some (0 : Int32), σ10)) else (some (some (1 : Int32), σ10))) else if v3 = (1 : Int32) then ((q_gr (q_gf σ10 8 a5 5)).bind fun x18 => (q_gi (q_ga σ10 20 x18 v2)).bind fun x19 => some (some x19, σ10)) else if v3 = (2 : Int32) then ((q_ob σ10 8 a5).bind fun w21 => q_sq (f_Pa_slack a5 v2 σ10) fun x23 σ22 => some (some ((2 : Int32) * x23), σ22)) else if v3 = (3 : Int32) then ((q_gr (q_gf σ10 8 a5 7)).bind fun x25 => (q_gi (q_ga σ10 20 x25 v2)).bind fun x26 => some (some x26, σ10)) else if v3 = (4 : Int32) then ((q_gr (q_gf σ10 8 a5 8)).bind fun x28 => (q_gi (q_ga σ10 20 x28 v2)).bind fun x29 => some (some x29, σ10)) else ((q_gr (q_gf σ10 8 a5 6)).bind fun x30 => (q_gi (q_ga σ10 20 x30 v2)).bind fun x31 => some (some (x31 &&& (63 : Int32)), σ10)))))
set_option maxRecDepth 100000 in
theorem b_Rs_line {fo : Option Nat} {d : Nat} (hd : 7 ≤ d + 1) {o : q_O} {σ' : q_H} (v0 : Nat) (v1 : Int32) (v2 : Int32) (v3 : Int32) (σ : q_H) : q_J (fun (r : Option Int32) (σ1 : q_H) => match r with | some x => o = .inl (some (.int x)) ∧ σ' = σ1 | none => o = .inr (σ1.2.1 - 1) ∧ σ' = σ1) (f_Rs_line v0 v1 v2 v3 σ) (q_G (q_rf fo) d m_Rs_line o σ' 0 [some (.ref v0), some (.int v1), some (.int v2), some (.int v3), none] [] σ) := by
  unfold f_Rs_line
  refine J_bind fun x1 hx1 => ?_
  refine J_bind fun w2 hw2 => ?_
  refine J_cl fun x4 σ3 hσ3 => ?_
  refine q_J.step (fun g => j_aload_n rfl rfl (j_gfr rfl hx1 (j_iload_n rfl rfl (j_v1 [.ref x1, .int v1] [] rfl rfl rfl rfl rfl rfl hw2 (Or.inl rfl) (t_Sf_pageOf (by omega) hσ3) (j_astoreO (x := x4) [some (.ref v0), some (.int v1), some (.int v2), some (.int v3), some (q_rf x4)] rfl rfl (Or.inr rfl) rfl (j_aloadO (x := x4) rfl rfl (g))))))) ?_
  cases ha5 : x4 with
  | none =>
    try subst ha5
    refine q_J.step (fun g => j_nul_t rfl (g)) ?_
    exact J_some (fun h => j_throw rfl (by omega) rfl rfl h.1 h.2)
  | some a5 =>
    try subst ha5
    refine J_bind fun w6 hw6 => ?_
    refine J_cl fun x8 σ7 hσ7 => ?_
    refine q_J.step (fun g => j_nul_f rfl (j_aload rfl rfl (j_iload_n rfl rfl (j_v1 [.ref a5, .int v2] [] rfl rfl rfl rfl rfl rfl hw6 (Or.inl rfl) (t_Pa_has (by omega) hσ7) (g))))) ?_
    refine J_ite (fun h9 => ?_) (fun h9 => ?_)
    · refine q_J.step (fun g => j_if_t rfl (cc_eq_t h9) (g)) ?_
      exact J_some (fun h => j_throw rfl (by omega) rfl rfl h.1 h.2)
    refine J_cl fun x11 σ10 hσ10 => ?_
    refine q_J.step (fun g => j_if_f rfl (cc_eq_f h9) (j_iconst (0 : Int32) rfl k32_0 (j_iload_n rfl rfl (j_iconst (5 : Int32) rfl k32_5 (j_s1 [.int (0 : Int32), .int v3, .int (5 : Int32)] [] rfl rfl rfl rfl rfl (t_Rs_isFrom (by omega) hσ10) (g)))))) ?_
    refine J_ite (fun h12 => ?_) (fun h12 => ?_)
    · refine q_J.step (fun g => j_if_f rfl (cc_ne_f h12) (g)) ?_
      exact J_some (fun h => j_throw rfl (by omega) rfl rfl h.1 h.2)
    refine q_J.step (fun g => j_if_t rfl (cc_ne_t h12) (j_iload_n rfl rfl (g))) ?_
    refine J_ite (fun h13 => ?_) (fun h13 => ?_)
    · refine J_bind fun x14 hx14 => ?_
      refine J_bind fun x15 hx15 => ?_
      refine q_J.step (fun g => j_sw 76 rfl (by rw [h13]; decide) (by rw [h13]; decide) (j_aload rfl rfl (j_gfr rfl hx14 (j_iload_n rfl rfl (j_bal rfl rfl hx15 (g)))))) ?_
      refine J_ite (fun h16 => ?_) (fun h16 => ?_)
      · exact J_some (fun h => j_if_t rfl (cc_eq_t h16) (j_iconst (0 : Int32) rfl k32_0 (j_iret rfl rfl h)))
      exact J_some (fun h => j_if_f rfl (cc_eq_f h16) (j_iconst (1 : Int32) rfl k32_1 (j_goto rfl (j_iret rfl rfl h))))
    refine J_ite (fun h17 => ?_) (fun h17 => ?_)
    · refine J_bind fun x18 hx18 => ?_
      refine J_bind fun x19 hx19 => ?_
      exact J_some (fun h => j_sw 92 rfl (by rw [h17]; decide) (by rw [h17]; decide) (j_aload rfl rfl (j_gfr rfl hx18 (j_iload_n rfl rfl (j_ial rfl hx19 (j_iret rfl rfl h))))))
    refine J_ite (fun h20 => ?_) (fun h20 => ?_)
    · refine J_bind fun w21 hw21 => ?_
      refine J_cl fun x23 σ22 hσ22 => ?_
      exact J_some (fun h => j_sw 100 rfl (by rw [h20]; decide) (by rw [h20]; decide) (j_iconst (2 : Int32) rfl k32_2 (j_aload rfl rfl (j_iload_n rfl rfl (j_v1 [.ref a5, .int v2] [.int (2 : Int32)] rfl rfl rfl rfl rfl rfl hw21 (Or.inl rfl) (t_Pa_slack (by omega) hσ22) (j_imul rfl (j_iret rfl rfl h)))))))
    refine J_ite (fun h24 => ?_) (fun h24 => ?_)
    · refine J_bind fun x25 hx25 => ?_
      refine J_bind fun x26 hx26 => ?_
      exact J_some (fun h => j_sw 109 rfl (by rw [h24]; decide) (by rw [h24]; decide) (j_aload rfl rfl (j_gfr rfl hx25 (j_iload_n rfl rfl (j_ial rfl hx26 (j_iret rfl rfl h))))))
    refine J_ite (fun h27 => ?_) (fun h27 => ?_)
    · refine J_bind fun x28 hx28 => ?_
      refine J_bind fun x29 hx29 => ?_
      exact J_some (fun h => j_sw 117 rfl (by rw [h27]; decide) (by rw [h27]; decide) (j_aload rfl rfl (j_gfr rfl hx28 (j_iload_n rfl rfl (j_ial rfl hx29 (j_iret rfl rfl h))))))
    refine J_bind fun x30 hx30 => ?_
    refine J_bind fun x31 hx31 => ?_
    exact J_some (fun h => j_swd 125 rfl (q_swd_0_4 h13 h17 h20 h24 h27) rfl (j_aload rfl rfl (j_gfr rfl hx30 (j_iload_n rfl rfl (j_ial rfl hx31 (j_bipush (63 : Int32) rfl kb_63 (j_iand rfl (j_iret rfl rfl h))))))))
theorem t_Rs_line {fo : Option Nat} {d : Nat} (hd : 7 ≤ d) {v0 : Nat} {v1 : Int32} {v2 : Int32} {v3 : Int32} {σ σ1 : q_H} {r : Int32} (h : f_Rs_line v0 v1 v2 v3 σ = some (some r, σ1)) : q_Rel (q_rf fo) q_Ms d 165 [.ref v0, .int v1, .int v2, .int v3] σ (.inl (some (.int r))) σ1 := by
  obtain ⟨d, rfl⟩ : ∃ d1, d = d1 + 1 := ⟨d - 1, by omega⟩
  exact q_Rel.of rfl rfl (b_Rs_line hd _ _ _ _ σ _ _ h ⟨rfl, rfl⟩)
theorem t_Rs_line_x {fo : Option Nat} {d : Nat} (hd : 7 ≤ d) {v0 : Nat} {v1 : Int32} {v2 : Int32} {v3 : Int32} {σ σ1 : q_H} (h : f_Rs_line v0 v1 v2 v3 σ = some (none, σ1)) : q_Rel (q_rf fo) q_Ms d 165 [.ref v0, .int v1, .int v2, .int v3] σ (.inr (σ1.2.1 - 1)) σ1 := by
  obtain ⟨d, rfl⟩ : ∃ d1, d = d1 + 1 := ⟨d - 1, by omega⟩
  exact q_Rel.of rfl rfl (b_Rs_line hd _ _ _ _ σ _ _ h ⟨rfl, rfl⟩)

def f_Rs_move (v0 : Nat) (v1 : Int32) (v2 : Int32) (σ : q_H) : Option ((Option Int32) × q_H) := (q_ob σ 0 v0).bind fun w1 => q_sq (f_Rs_gather v0 (0 : Int32) (0 : Int32) σ) fun x3 σ2 => (q_ob σ2 0 v0).bind fun w4 => q_sq (f_Rs_moveOf v0 v1 x3 σ2) fun x6 σ5 => match x6 with | none => (some (none, q_th σ5)) | some a7 => (q_sq (f_Rs_isFrom (0 : Int32) v2 (1 : Int32) σ5) fun x9 σ8 => if x9 = (0 : Int32) then (some (none, q_th σ8)) else (q_sq (f_Rs_partOf (some a7) v2 σ8) fun x12 σ11 => some (some x12, σ11)))
set_option maxRecDepth 100000 in
theorem b_Rs_move {fo : Option Nat} {d : Nat} (hd : 7 ≤ d + 1) {o : q_O} {σ' : q_H} (v0 : Nat) (v1 : Int32) (v2 : Int32) (σ : q_H) : q_J (fun (r : Option Int32) (σ1 : q_H) => match r with | some x => o = .inl (some (.int x)) ∧ σ' = σ1 | none => o = .inr (σ1.2.1 - 1) ∧ σ' = σ1) (f_Rs_move v0 v1 v2 σ) (q_G (q_rf fo) d m_Rs_move o σ' 0 [some (.ref v0), some (.int v1), some (.int v2), none] [] σ) := by
  unfold f_Rs_move
  refine J_bind fun w1 hw1 => ?_
  refine J_cl fun x3 σ2 hσ2 => ?_
  refine J_bind fun w4 hw4 => ?_
  refine J_cl fun x6 σ5 hσ5 => ?_
  refine q_J.step (fun g => j_aload_n rfl rfl (j_iload_n rfl rfl (j_aload_n rfl rfl (j_iconst (0 : Int32) rfl k32_0 (j_iconst (0 : Int32) rfl k32_0 (j_v1 [.ref v0, .int (0 : Int32), .int (0 : Int32)] [.int v1, .ref v0] rfl rfl rfl rfl rfl rfl hw1 (Or.inl rfl) (t_Rs_gather (by omega) hσ2) (j_v1 [.ref v0, .int v1, .ref x3] [] rfl rfl rfl rfl rfl rfl hw4 (Or.inl rfl) (t_Rs_moveOf (by omega) hσ5) (j_astore_nO (x := x6) [some (.ref v0), some (.int v1), some (.int v2), some (q_rf x6)] rfl rfl (Or.inr rfl) rfl (j_aload_nO (x := x6) rfl rfl (g)))))))))) ?_
  cases ha7 : x6 with
  | none =>
    try subst ha7
    refine q_J.step (fun g => j_nul_t rfl (g)) ?_
    exact J_some (fun h => j_throw rfl (by omega) rfl rfl h.1 h.2)
  | some a7 =>
    try subst ha7
    refine J_cl fun x9 σ8 hσ8 => ?_
    refine q_J.step (fun g => j_nul_f rfl (j_iconst (0 : Int32) rfl k32_0 (j_iload_n rfl rfl (j_iconst (1 : Int32) rfl k32_1 (j_s1 [.int (0 : Int32), .int v2, .int (1 : Int32)] [] rfl rfl rfl rfl rfl (t_Rs_isFrom (by omega) hσ8) (g)))))) ?_
    refine J_ite (fun h10 => ?_) (fun h10 => ?_)
    · refine q_J.step (fun g => j_if_f rfl (cc_ne_f h10) (g)) ?_
      exact J_some (fun h => j_throw rfl (by omega) rfl rfl h.1 h.2)
    refine J_cl fun x12 σ11 hσ11 => ?_
    exact J_some (fun h => j_if_t rfl (cc_ne_t h10) (j_aload_n rfl rfl (j_iload_n rfl rfl (j_s1 [.ref a7, .int v2] [] rfl rfl rfl rfl rfl (t_Rs_partOf (by omega) hσ11) (j_iret rfl rfl h)))))
theorem t_Rs_move {fo : Option Nat} {d : Nat} (hd : 7 ≤ d) {v0 : Nat} {v1 : Int32} {v2 : Int32} {σ σ1 : q_H} {r : Int32} (h : f_Rs_move v0 v1 v2 σ = some (some r, σ1)) : q_Rel (q_rf fo) q_Ms d 166 [.ref v0, .int v1, .int v2] σ (.inl (some (.int r))) σ1 := by
  obtain ⟨d, rfl⟩ : ∃ d1, d = d1 + 1 := ⟨d - 1, by omega⟩
  exact q_Rel.of rfl rfl (b_Rs_move hd _ _ _ σ _ _ h ⟨rfl, rfl⟩)
theorem t_Rs_move_x {fo : Option Nat} {d : Nat} (hd : 7 ≤ d) {v0 : Nat} {v1 : Int32} {v2 : Int32} {σ σ1 : q_H} (h : f_Rs_move v0 v1 v2 σ = some (none, σ1)) : q_Rel (q_rf fo) q_Ms d 166 [.ref v0, .int v1, .int v2] σ (.inr (σ1.2.1 - 1)) σ1 := by
  obtain ⟨d, rfl⟩ : ∃ d1, d = d1 + 1 := ⟨d - 1, by omega⟩
  exact q_Rel.of rfl rfl (b_Rs_move hd _ _ _ σ _ _ h ⟨rfl, rfl⟩)

def f_Rs_lean (v0 : Nat) (v1 : Int32) (σ : q_H) : Option ((Option Int32) × q_H) := (q_ob σ 0 v0).bind fun w1 => q_sq (f_Rs_gather v0 (3 : Int32) (0 : Int32) σ) fun x3 σ2 => (q_ob σ2 0 v0).bind fun w4 => q_sq (f_Rs_gather v0 (3 : Int32) (1 : Int32) σ2) fun x6 σ5 => (q_ob σ5 9 x3).bind fun w7 => q_sq (f_Ty_picked x3 (0 : Int32) (0 : Int32) σ5) fun x9 σ8 => (q_ob σ8 9 x3).bind fun w10 => q_sq (f_Ty_all x3 (0 : Int32) σ8) fun x12 σ11 => (q_ob σ11 9 x6).bind fun w13 => q_sq (f_Ty_picked x6 (0 : Int32) (0 : Int32) σ11) fun x15 σ14 => (q_ob σ14 9 x6).bind fun w16 => q_sq (f_Ty_all x6 (0 : Int32) σ14) fun x18 σ17 => q_sq (f_Ra_difference x9.toInt64 x12.toInt64 x15.toInt64 x18.toInt64 σ17) fun x20 σ19 => match x20 with | none => (some (none, q_th σ19)) | some a21 => (q_sq (f_Rs_isFrom (0 : Int32) v1 (1 : Int32) σ19) fun x23 σ22 => if x23 = (0 : Int32) then (some (none, q_th σ22)) else (q_sq (f_Rs_partOf (some a21) v1 σ22) fun x26 σ25 => some (some x26, σ25)))
set_option maxRecDepth 100000 in
theorem b_Rs_lean {fo : Option Nat} {d : Nat} (hd : 7 ≤ d + 1) {o : q_O} {σ' : q_H} (v0 : Nat) (v1 : Int32) (σ : q_H) : q_J (fun (r : Option Int32) (σ1 : q_H) => match r with | some x => o = .inl (some (.int x)) ∧ σ' = σ1 | none => o = .inr (σ1.2.1 - 1) ∧ σ' = σ1) (f_Rs_lean v0 v1 σ) (q_G (q_rf fo) d m_Rs_lean o σ' 0 [some (.ref v0), some (.int v1), none, none, none] [] σ) := by
  unfold f_Rs_lean
  refine J_bind fun w1 hw1 => ?_
  refine J_cl fun x3 σ2 hσ2 => ?_
  refine J_bind fun w4 hw4 => ?_
  refine J_cl fun x6 σ5 hσ5 => ?_
  refine J_bind fun w7 hw7 => ?_
  refine J_cl fun x9 σ8 hσ8 => ?_
  refine J_bind fun w10 hw10 => ?_
  refine J_cl fun x12 σ11 hσ11 => ?_
  refine J_bind fun w13 hw13 => ?_
  refine J_cl fun x15 σ14 hσ14 => ?_
  refine J_bind fun w16 hw16 => ?_
  refine J_cl fun x18 σ17 hσ17 => ?_
  refine J_cl fun x20 σ19 hσ19 => ?_
  refine q_J.step (fun g => j_aload_n rfl rfl (j_iconst (3 : Int32) rfl k32_3 (j_iconst (0 : Int32) rfl k32_0 (j_v1 [.ref v0, .int (3 : Int32), .int (0 : Int32)] [] rfl rfl rfl rfl rfl rfl hw1 (Or.inl rfl) (t_Rs_gather (by omega) hσ2) (j_astore_n [some (.ref v0), some (.int v1), some (.ref x3), none, none] rfl rfl (Or.inr rfl) rfl (j_aload_n rfl rfl (j_iconst (3 : Int32) rfl k32_3 (j_iconst (1 : Int32) rfl k32_1 (j_v1 [.ref v0, .int (3 : Int32), .int (1 : Int32)] [] rfl rfl rfl rfl rfl rfl hw4 (Or.inl rfl) (t_Rs_gather (by omega) hσ5) (j_astore_n [some (.ref v0), some (.int v1), some (.ref x3), some (.ref x6), none] rfl rfl (Or.inr rfl) rfl (j_aload_n rfl rfl (j_iconst (0 : Int32) rfl k32_0 (j_iconst (0 : Int32) rfl k32_0 (j_v1 [.ref x3, .int (0 : Int32), .int (0 : Int32)] [] rfl rfl rfl rfl rfl rfl hw7 (Or.inl rfl) (t_Ty_picked (by omega) hσ8) (g))))))))))))))) ?_
  refine q_J.step (fun g => j_i2l rfl (j_aload_n rfl rfl (j_iconst (0 : Int32) rfl k32_0 (j_v1 [.ref x3, .int (0 : Int32)] [.long x9.toInt64] rfl rfl rfl rfl rfl rfl hw10 (Or.inl rfl) (t_Ty_all (by omega) hσ11) (j_i2l rfl (j_aload_n rfl rfl (j_iconst (0 : Int32) rfl k32_0 (j_iconst (0 : Int32) rfl k32_0 (j_v1 [.ref x6, .int (0 : Int32), .int (0 : Int32)] [.long x12.toInt64, .long x9.toInt64] rfl rfl rfl rfl rfl rfl hw13 (Or.inl rfl) (t_Ty_picked (by omega) hσ14) (j_i2l rfl (j_aload_n rfl rfl (j_iconst (0 : Int32) rfl k32_0 (j_v1 [.ref x6, .int (0 : Int32)] [.long x15.toInt64, .long x12.toInt64, .long x9.toInt64] rfl rfl rfl rfl rfl rfl hw16 (Or.inl rfl) (t_Ty_all (by omega) hσ17) (j_i2l rfl (g))))))))))))))) ?_
  refine q_J.step (fun g => j_s1 [.long x9.toInt64, .long x12.toInt64, .long x15.toInt64, .long x18.toInt64] [] rfl rfl rfl rfl rfl (t_Ra_difference (by omega) hσ19) (j_astoreO (x := x20) [some (.ref v0), some (.int v1), some (.ref x3), some (.ref x6), some (q_rf x20)] rfl rfl (Or.inr rfl) rfl (j_aloadO (x := x20) rfl rfl (g)))) ?_
  cases ha21 : x20 with
  | none =>
    try subst ha21
    refine q_J.step (fun g => j_nul_t rfl (g)) ?_
    exact J_some (fun h => j_throw rfl (by omega) rfl rfl h.1 h.2)
  | some a21 =>
    try subst ha21
    refine J_cl fun x23 σ22 hσ22 => ?_
    refine q_J.step (fun g => j_nul_f rfl (j_iconst (0 : Int32) rfl k32_0 (j_iload_n rfl rfl (j_iconst (1 : Int32) rfl k32_1 (j_s1 [.int (0 : Int32), .int v1, .int (1 : Int32)] [] rfl rfl rfl rfl rfl (t_Rs_isFrom (by omega) hσ22) (g)))))) ?_
    refine J_ite (fun h24 => ?_) (fun h24 => ?_)
    · refine q_J.step (fun g => j_if_f rfl (cc_ne_f h24) (g)) ?_
      exact J_some (fun h => j_throw rfl (by omega) rfl rfl h.1 h.2)
    refine J_cl fun x26 σ25 hσ25 => ?_
    exact J_some (fun h => j_if_t rfl (cc_ne_t h24) (j_aload rfl rfl (j_iload_n rfl rfl (j_s1 [.ref a21, .int v1] [] rfl rfl rfl rfl rfl (t_Rs_partOf (by omega) hσ25) (j_iret rfl rfl h)))))
theorem t_Rs_lean {fo : Option Nat} {d : Nat} (hd : 7 ≤ d) {v0 : Nat} {v1 : Int32} {σ σ1 : q_H} {r : Int32} (h : f_Rs_lean v0 v1 σ = some (some r, σ1)) : q_Rel (q_rf fo) q_Ms d 167 [.ref v0, .int v1] σ (.inl (some (.int r))) σ1 := by
  obtain ⟨d, rfl⟩ : ∃ d1, d = d1 + 1 := ⟨d - 1, by omega⟩
  exact q_Rel.of rfl rfl (b_Rs_lean hd _ _ σ _ _ h ⟨rfl, rfl⟩)
theorem t_Rs_lean_x {fo : Option Nat} {d : Nat} (hd : 7 ≤ d) {v0 : Nat} {v1 : Int32} {σ σ1 : q_H} (h : f_Rs_lean v0 v1 σ = some (none, σ1)) : q_Rel (q_rf fo) q_Ms d 167 [.ref v0, .int v1] σ (.inr (σ1.2.1 - 1)) σ1 := by
  obtain ⟨d, rfl⟩ : ∃ d1, d = d1 + 1 := ⟨d - 1, by omega⟩
  exact q_Rel.of rfl rfl (b_Rs_lean hd _ _ σ _ _ h ⟨rfl, rfl⟩)

def f_Rs_known (v0 : Nat) (v1 : Int32) (v2 : Int32) (v3 : Int32) (σ : q_H) : Option ((Option Int32) × q_H) := (q_gr (q_gf σ 0 v0 3)).bind fun x1 => (q_ob σ 2 x1).bind fun w2 => q_sq (f_Sf_pageOf x1 v1 σ) fun x4 σ3 => match x4 with | none => (some (none, q_th σ3)) | some a5 => ((q_ob σ3 8 a5).bind fun w6 => q_sq (f_Pa_has a5 v2 σ3) fun x8 σ7 => if x8 = (0 : Int32) then (some (none, q_th σ7)) else (q_sq (f_Rs_isFrom (0 : Int32) v3 (1 : Int32) σ7) fun x11 σ10 => if x11 = (0 : Int32) then (some (none, q_th σ10)) else ((q_gr (q_gf σ10 0 v0 6)).bind fun x13 => (q_gr (q_gf σ10 0 v0 3)).bind fun x14 => (q_ob σ10 3 x13).bind fun w15 => q_sq (f_Ho_refresh x13 x14 σ10) fun (_ : Unit) σ16 => (q_gr (q_gf σ16 0 v0 6)).bind fun x18 => (q_gr (q_gf σ16 3 x18 2)).bind fun x19 => (q_gi (q_ga σ16 20 x19 ((v1 * (12 : Int32)) + v2))).bind fun x20 => (q_gr (q_gf σ16 0 v0 6)).bind fun x21 => (q_gr (q_gf σ16 3 x21 3)).bind fun x22 => (q_gi (q_ga σ16 20 x22 ((v1 * (12 : Int32)) + v2))).bind fun x23 => if x23 < x20 then (some (none, q_th σ16)) else (if v3 = (0 : Int32) then ((q_gr (q_gf σ16 0 v0 6)).bind fun x26 => (q_gr (q_gf σ16 3 x26 2)).bind fun x27 => (q_gi (q_ga σ16 20 x27 ((v1 * (12 : Int32)) + v2))).bind fun x28 => some (some x28, σ16)) else ((q_gr (q_gf σ16 0 v0 6)).bind fun x29 => (q_gr (q_gf σ16 3 x29 3)).bind fun x30 => (q_gi (q_ga σ16 20 x30 ((v1 * (12 : Int32)) + v2))).bind fun x31 => some (some x31, σ16))))))
set_option maxRecDepth 100000 in
theorem b_Rs_known {fo : Option Nat} {d : Nat} (hd : 7 ≤ d + 1) {o : q_O} {σ' : q_H} (v0 : Nat) (v1 : Int32) (v2 : Int32) (v3 : Int32) (σ : q_H) : q_J (fun (r : Option Int32) (σ1 : q_H) => match r with | some x => o = .inl (some (.int x)) ∧ σ' = σ1 | none => o = .inr (σ1.2.1 - 1) ∧ σ' = σ1) (f_Rs_known v0 v1 v2 v3 σ) (q_G (q_rf fo) d m_Rs_known o σ' 0 [some (.ref v0), some (.int v1), some (.int v2), some (.int v3), none, none] [] σ) := by
  unfold f_Rs_known
  refine J_bind fun x1 hx1 => ?_
  refine J_bind fun w2 hw2 => ?_
  refine J_cl fun x4 σ3 hσ3 => ?_
  refine q_J.step (fun g => j_aload_n rfl rfl (j_gfr rfl hx1 (j_iload_n rfl rfl (j_v1 [.ref x1, .int v1] [] rfl rfl rfl rfl rfl rfl hw2 (Or.inl rfl) (t_Sf_pageOf (by omega) hσ3) (j_astoreO (x := x4) [some (.ref v0), some (.int v1), some (.int v2), some (.int v3), some (q_rf x4), none] rfl rfl (Or.inr rfl) rfl (j_aloadO (x := x4) rfl rfl (g))))))) ?_
  cases ha5 : x4 with
  | none =>
    try subst ha5
    refine q_J.step (fun g => j_nul_t rfl (g)) ?_
    exact J_some (fun h => j_throw rfl (by omega) rfl rfl h.1 h.2)
  | some a5 =>
    try subst ha5
    refine J_bind fun w6 hw6 => ?_
    refine J_cl fun x8 σ7 hσ7 => ?_
    refine q_J.step (fun g => j_nul_f rfl (j_aload rfl rfl (j_iload_n rfl rfl (j_v1 [.ref a5, .int v2] [] rfl rfl rfl rfl rfl rfl hw6 (Or.inl rfl) (t_Pa_has (by omega) hσ7) (g))))) ?_
    refine J_ite (fun h9 => ?_) (fun h9 => ?_)
    · refine q_J.step (fun g => j_if_t rfl (cc_eq_t h9) (g)) ?_
      exact J_some (fun h => j_throw rfl (by omega) rfl rfl h.1 h.2)
    refine J_cl fun x11 σ10 hσ10 => ?_
    refine q_J.step (fun g => j_if_f rfl (cc_eq_f h9) (j_iconst (0 : Int32) rfl k32_0 (j_iload_n rfl rfl (j_iconst (1 : Int32) rfl k32_1 (j_s1 [.int (0 : Int32), .int v3, .int (1 : Int32)] [] rfl rfl rfl rfl rfl (t_Rs_isFrom (by omega) hσ10) (g)))))) ?_
    refine J_ite (fun h12 => ?_) (fun h12 => ?_)
    · refine q_J.step (fun g => j_if_f rfl (cc_ne_f h12) (g)) ?_
      exact J_some (fun h => j_throw rfl (by omega) rfl rfl h.1 h.2)
    refine J_bind fun x13 hx13 => ?_
    refine J_bind fun x14 hx14 => ?_
    refine J_bind fun w15 hw15 => ?_
    refine J_cl fun _ σ16 hσ16 => ?_
    refine J_bind fun x18 hx18 => ?_
    refine J_bind fun x19 hx19 => ?_
    refine J_bind fun x20 hx20 => ?_
    refine J_bind fun x21 hx21 => ?_
    refine J_bind fun x22 hx22 => ?_
    refine J_bind fun x23 hx23 => ?_
    refine q_J.step (fun g => j_if_t rfl (cc_ne_t h12) (j_aload_n rfl rfl (j_gfr rfl hx13 (j_aload_n rfl rfl (j_gfr rfl hx14 (j_v0 [.ref x13, .ref x14] [] rfl rfl rfl rfl rfl rfl hw15 (Or.inl rfl) (t_Ho_refresh (by omega) hσ16) (j_iload_n rfl rfl (j_bipush (12 : Int32) rfl kb_12 (j_imul rfl (j_iload_n rfl rfl (j_iadd rfl (j_istore [some (.ref v0), some (.int v1), some (.int v2), some (.int v3), some (.ref a5), some (.int ((v1 * (12 : Int32)) + v2))] rfl rfl (Or.inr rfl) rfl (j_aload_n rfl rfl (j_gfr rfl hx18 (g))))))))))))))) ?_
    refine q_J.step (fun g => j_gfr rfl hx19 (j_iload rfl rfl (j_ial rfl hx20 (j_aload_n rfl rfl (j_gfr rfl hx21 (j_gfr rfl hx22 (j_iload rfl rfl (j_ial rfl hx23 (g))))))))) ?_
    refine J_ite (fun h24 => ?_) (fun h24 => ?_)
    · refine q_J.step (fun g => j_icmp_f rfl (cc_le_f h24) (g)) ?_
      exact J_some (fun h => j_throw rfl (by omega) rfl rfl h.1 h.2)
    refine q_J.step (fun g => j_icmp_t rfl (cc_le_t h24) (j_iload_n rfl rfl (g))) ?_
    refine J_ite (fun h25 => ?_) (fun h25 => ?_)
    · refine J_bind fun x26 hx26 => ?_
      refine J_bind fun x27 hx27 => ?_
      refine J_bind fun x28 hx28 => ?_
      exact J_some (fun h => j_if_f rfl (cc_ne_f h25) (j_aload_n rfl rfl (j_gfr rfl hx26 (j_gfr rfl hx27 (j_iload rfl rfl (j_ial rfl hx28 (j_goto rfl (j_iret rfl rfl h))))))))
    refine J_bind fun x29 hx29 => ?_
    refine J_bind fun x30 hx30 => ?_
    refine J_bind fun x31 hx31 => ?_
    exact J_some (fun h => j_if_t rfl (cc_ne_t h25) (j_aload_n rfl rfl (j_gfr rfl hx29 (j_gfr rfl hx30 (j_iload rfl rfl (j_ial rfl hx31 (j_iret rfl rfl h)))))))
theorem t_Rs_known {fo : Option Nat} {d : Nat} (hd : 7 ≤ d) {v0 : Nat} {v1 : Int32} {v2 : Int32} {v3 : Int32} {σ σ1 : q_H} {r : Int32} (h : f_Rs_known v0 v1 v2 v3 σ = some (some r, σ1)) : q_Rel (q_rf fo) q_Ms d 168 [.ref v0, .int v1, .int v2, .int v3] σ (.inl (some (.int r))) σ1 := by
  obtain ⟨d, rfl⟩ : ∃ d1, d = d1 + 1 := ⟨d - 1, by omega⟩
  exact q_Rel.of rfl rfl (b_Rs_known hd _ _ _ _ σ _ _ h ⟨rfl, rfl⟩)
theorem t_Rs_known_x {fo : Option Nat} {d : Nat} (hd : 7 ≤ d) {v0 : Nat} {v1 : Int32} {v2 : Int32} {v3 : Int32} {σ σ1 : q_H} (h : f_Rs_known v0 v1 v2 v3 σ = some (none, σ1)) : q_Rel (q_rf fo) q_Ms d 168 [.ref v0, .int v1, .int v2, .int v3] σ (.inr (σ1.2.1 - 1)) σ1 := by
  obtain ⟨d, rfl⟩ : ∃ d1, d = d1 + 1 := ⟨d - 1, by omega⟩
  exact q_Rel.of rfl rfl (b_Rs_known hd _ _ _ _ σ _ _ h ⟨rfl, rfl⟩)

def f_Sr_parse_L9 (v0 : Nat) : Nat → Int32 → q_H → Option ((Int32 ⊕ Unit) × q_H)
  | 0, _, _ => none
  | n + 1, v1, σ => if (12 : Int32) < v1 then (some ((.inr ()), σ)) else ((q_gr (q_gf σ 7 v0 0)).bind fun x6 => (q_ob σ 1 x6).bind fun w7 => q_sq (f_Ta_advance x6 σ) fun (_ : Unit) σ8 => (q_gr (q_gf σ8 7 v0 0)).bind fun x10 => (q_gi (q_gf σ8 1 x10 3)).bind fun x11 => if x11 = (0 : Int32) then (some ((.inl (0 : Int32)), σ8)) else ((q_gr (q_gf σ8 7 v0 0)).bind fun x13 => (q_gr (q_gf σ8 7 v0 1)).bind fun x14 => (q_ob σ8 1 x13).bind fun w15 => q_sq (f_Ta_wordIn x13 x14 σ8) fun x17 σ16 => if x17 = (8 : Int32) then (if v1 = (12 : Int32) then ((q_gr (q_gf σ16 7 v0 0)).bind fun x20 => (q_ob σ16 1 x20).bind fun w21 => q_sq (f_Ta_fault x20 (5 : Int32) σ16) fun x23 σ22 => some ((.inl x23), σ22)) else (q_sq (if x17 = (9 : Int32) then (some ((1 : Int32), σ16)) else (some ((0 : Int32), σ16))) fun (t25 : Int32) σ26 => (q_ob σ26 7 v0).bind fun w27 => q_sq (f_Sr_parseHead v0 v1 t25 σ26) fun x29 σ28 => q_sq (if x29 = (0 : Int32) then ((q_ob σ28 7 v0).bind fun w31 => q_sq (f_Sr_parseTags v0 v1 σ28) fun x33 σ32 => some (x33, σ32)) else (some (x29, σ28))) fun (t34 : Int32) σ35 => if t34 = (0 : Int32) then ((q_gr (q_gf σ35 7 v0 2)).bind fun x37 => (q_sf σ35 8 x37 0 (.int (v1 + (1 : Int32)))).bind fun σ38 => f_Sr_parse_L9 v0 n (v1 + (1 : Int32)) σ38) else (some ((.inl t34), σ35)))) else (if x17 = (9 : Int32) then (if v1 = (12 : Int32) then ((q_gr (q_gf σ16 7 v0 0)).bind fun x41 => (q_ob σ16 1 x41).bind fun w42 => q_sq (f_Ta_fault x41 (5 : Int32) σ16) fun x44 σ43 => some ((.inl x44), σ43)) else (q_sq (if x17 = (9 : Int32) then (some ((1 : Int32), σ16)) else (some ((0 : Int32), σ16))) fun (t46 : Int32) σ47 => (q_ob σ47 7 v0).bind fun w48 => q_sq (f_Sr_parseHead v0 v1 t46 σ47) fun x50 σ49 => q_sq (if x50 = (0 : Int32) then ((q_ob σ49 7 v0).bind fun w52 => q_sq (f_Sr_parseTags v0 v1 σ49) fun x54 σ53 => some (x54, σ53)) else (some (x50, σ49))) fun (t55 : Int32) σ56 => if t55 = (0 : Int32) then ((q_gr (q_gf σ56 7 v0 2)).bind fun x58 => (q_sf σ56 8 x58 0 (.int (v1 + (1 : Int32)))).bind fun σ59 => f_Sr_parse_L9 v0 n (v1 + (1 : Int32)) σ59) else (some ((.inl t55), σ56)))) else ((q_gr (q_gf σ16 7 v0 0)).bind fun x60 => (q_ob σ16 1 x60).bind fun w61 => q_sq (f_Ta_fault x60 (1 : Int32) σ16) fun x63 σ62 => some ((.inl x63), σ62)))))
set_option maxRecDepth 100000 in
theorem l_Sr_parse_L9 {fo : Option Nat} {d : Nat} (hd : 8 ≤ d + 1) {o : q_O} {σ' : q_H} {E : (Int32 ⊕ Unit) → q_H → Prop} (v0 : Nat) (hR : ∀ r σ1, E (.inl r) σ1 → o = .inl (some (.int r)) ∧ σ' = σ1) (hX : ∀ (t : Unit) σ1, E (.inr t) σ1 → q_G (q_rf fo) d m_Sr_parse o σ' 131 [none, none, none, none] [] σ1)  : ∀ (n : Nat) (v1 : Int32) (σ : q_H), q_J E (f_Sr_parse_L9 v0 n v1 σ) (q_G (q_rf fo) d m_Sr_parse o σ' 9 [some (.ref v0), some (.int v1), none, none] [] σ)
  | 0, v1, σ => J_none
  | n + 1, v1, σ => by
    unfold f_Sr_parse_L9
    refine q_J.step (fun g => j_iload_n rfl rfl (j_bipush (12 : Int32) rfl kb_12 (g))) ?_
    refine J_ite (fun h5 => ?_) (fun h5 => ?_)
    · exact J_some (fun h => j_icmp_t rfl (cc_gt_t h5) (j_weak (l := [none, none, none, none]) (And.intro (Or.inl rfl) (And.intro (Or.inl rfl) (And.intro (Or.inr rfl) (And.intro (Or.inr rfl) True.intro)))) (hX _ _ h)))
    refine J_bind fun x6 hx6 => ?_
    refine J_bind fun w7 hw7 => ?_
    refine J_cl fun _ σ8 hσ8 => ?_
    refine J_bind fun x10 hx10 => ?_
    refine J_bind fun x11 hx11 => ?_
    refine q_J.step (fun g => j_icmp_f rfl (cc_gt_f h5) (j_aload_n rfl rfl (j_gfr rfl hx6 (j_v0 [.ref x6] [] rfl rfl rfl rfl rfl rfl hw7 (Or.inl rfl) (t_Ta_advance (by omega) hσ8) (j_aload_n rfl rfl (j_gfr rfl hx10 (j_gfi rfl hx11 (g)))))))) ?_
    refine J_ite (fun h12 => ?_) (fun h12 => ?_)
    · exact J_some (fun h => j_if_f rfl (cc_ne_f h12) (j_iconst (0 : Int32) rfl k32_0 (j_iret rfl rfl (hR _ _ h))))
    refine J_bind fun x13 hx13 => ?_
    refine J_bind fun x14 hx14 => ?_
    refine J_bind fun w15 hw15 => ?_
    refine J_cl fun x17 σ16 hσ16 => ?_
    refine q_J.step (fun g => j_if_t rfl (cc_ne_t h12) (j_aload_n rfl rfl (j_gfr rfl hx13 (j_aload_n rfl rfl (j_gfr rfl hx14 (j_v1 [.ref x13, .ref x14] [] rfl rfl rfl rfl rfl rfl hw15 (Or.inl rfl) (t_Ta_wordIn (by omega) hσ16) (j_istore_n [some (.ref v0), some (.int v1), some (.int x17), none] rfl rfl (Or.inr rfl) rfl (j_iload_n rfl rfl (j_bipush (8 : Int32) rfl kb_8 (g)))))))))) ?_
    refine J_ite (fun h18 => ?_) (fun h18 => ?_)
    · refine q_J.step (fun g => j_icmp_t rfl (cc_eq_t h18) (j_iload_n rfl rfl (j_bipush (12 : Int32) rfl kb_12 (g)))) ?_
      refine J_ite (fun h19 => ?_) (fun h19 => ?_)
      · refine J_bind fun x20 hx20 => ?_
        refine J_bind fun w21 hw21 => ?_
        refine J_cl fun x23 σ22 hσ22 => ?_
        exact J_some (fun h => j_icmp_f rfl (cc_ne_f h19) (j_aload_n rfl rfl (j_gfr rfl hx20 (j_iconst (5 : Int32) rfl k32_5 (j_v1 [.ref x20, .int (5 : Int32)] [] rfl rfl rfl rfl rfl rfl hw21 (Or.inl rfl) (t_Ta_fault (by omega) hσ22) (j_iret rfl rfl (hR _ _ h)))))))
      refine q_J.step (fun g => j_icmp_t rfl (cc_ne_t h19) (j_aload_n rfl rfl (j_iload_n rfl rfl (j_iload_n rfl rfl (j_bipush (9 : Int32) rfl kb_9 (g)))))) ?_
      refine J_sq (fun (t25 : Int32) (σ26 : q_H) => q_G (q_rf fo) d m_Sr_parse o σ' 95 [some (.ref v0), some (.int v1), none, none] [.int t25, .int v1, .ref v0] σ26) ?_ (fun t25 σ26 => ?_)
      · refine J_ite (fun h24 => ?_) (fun h24 => ?_)
        · exact J_some (fun h => j_icmp_f rfl (cc_ne_f h24) (j_iconst (1 : Int32) rfl k32_1 (j_goto rfl (j_weak (l := [some (.ref v0), some (.int v1), none, none]) (And.intro (Or.inr rfl) (And.intro (Or.inr rfl) (And.intro (Or.inl rfl) (And.intro (Or.inr rfl) True.intro)))) (h)))))
        exact J_some (fun h => j_icmp_t rfl (cc_ne_t h24) (j_iconst (0 : Int32) rfl k32_0 (j_weak (l := [some (.ref v0), some (.int v1), none, none]) (And.intro (Or.inr rfl) (And.intro (Or.inr rfl) (And.intro (Or.inl rfl) (And.intro (Or.inr rfl) True.intro)))) (h))))
      refine J_bind fun w27 hw27 => ?_
      refine J_cl fun x29 σ28 hσ28 => ?_
      refine q_J.step (fun g => j_v1 [.ref v0, .int v1, .int t25] [] rfl rfl rfl rfl rfl rfl hw27 (Or.inl rfl) (t_Sr_parseHead (by omega) hσ28) (j_istore_n [some (.ref v0), some (.int v1), none, some (.int x29)] rfl rfl (Or.inr True.intro) rfl (j_iload_n rfl rfl (g)))) ?_
      refine J_sq (fun (t34 : Int32) (σ35 : q_H) => q_G (q_rf fo) d m_Sr_parse o σ' 109 [some (.ref v0), some (.int v1), none, some (.int t34)] [] σ35) ?_ (fun t34 σ35 => ?_)
      · refine J_ite (fun h30 => ?_) (fun h30 => ?_)
        · refine J_bind fun w31 hw31 => ?_
          refine J_cl fun x33 σ32 hσ32 => ?_
          exact J_some (fun h => j_if_f rfl (cc_ne_f h30) (j_aload_n rfl rfl (j_iload_n rfl rfl (j_v1 [.ref v0, .int v1] [] rfl rfl rfl rfl rfl rfl hw31 (Or.inl rfl) (t_Sr_parseTags (by omega) hσ32) (j_istore_n [some (.ref v0), some (.int v1), none, some (.int x33)] rfl rfl (Or.inr True.intro) rfl (h))))))
        exact J_some (fun h => j_if_t rfl (cc_ne_t h30) (h))
      refine q_J.step (fun g => j_iload_n rfl rfl (g)) ?_
      refine J_ite (fun h36 => ?_) (fun h36 => ?_)
      · refine J_bind fun x37 hx37 => ?_
        refine J_bind fun σ38 hσ38 => ?_
        exact q_J.step (fun g => j_if_t rfl (cc_eq_t h36) (j_aload_n rfl rfl (j_gfr rfl hx37 (j_iload_n rfl rfl (j_iconst (1 : Int32) rfl k32_1 (j_iadd rfl (j_putf rfl rfl rfl rfl hσ38 (j_iinc [some (.ref v0), some (.int (v1 + (1 : Int32))), none, some (.int t34)] (v1 + (1 : Int32)) rfl rfl (by rw [k32_1]) (Or.inr rfl) rfl (j_goto rfl (j_weak (l := [some (.ref v0), some (.int (v1 + (1 : Int32))), none, none]) (And.intro (Or.inr rfl) (And.intro (Or.inr rfl) (And.intro (Or.inr rfl) (And.intro (Or.inl rfl) True.intro)))) (g))))))))))) (l_Sr_parse_L9 hd v0 hR hX n (v1 + (1 : Int32)) σ38)
      exact J_some (fun h => j_if_f rfl (cc_eq_f h36) (j_iload_n rfl rfl (j_iret rfl rfl (hR _ _ h))))
    refine q_J.step (fun g => j_icmp_f rfl (cc_eq_f h18) (j_iload_n rfl rfl (j_bipush (9 : Int32) rfl kb_9 (g)))) ?_
    refine J_ite (fun h39 => ?_) (fun h39 => ?_)
    · refine q_J.step (fun g => j_icmp_t rfl (cc_eq_t h39) (j_iload_n rfl rfl (j_bipush (12 : Int32) rfl kb_12 (g)))) ?_
      refine J_ite (fun h40 => ?_) (fun h40 => ?_)
      · refine J_bind fun x41 hx41 => ?_
        refine J_bind fun w42 hw42 => ?_
        refine J_cl fun x44 σ43 hσ43 => ?_
        exact J_some (fun h => j_icmp_f rfl (cc_ne_f h40) (j_aload_n rfl rfl (j_gfr rfl hx41 (j_iconst (5 : Int32) rfl k32_5 (j_v1 [.ref x41, .int (5 : Int32)] [] rfl rfl rfl rfl rfl rfl hw42 (Or.inl rfl) (t_Ta_fault (by omega) hσ43) (j_iret rfl rfl (hR _ _ h)))))))
      refine q_J.step (fun g => j_icmp_t rfl (cc_ne_t h40) (j_aload_n rfl rfl (j_iload_n rfl rfl (j_iload_n rfl rfl (j_bipush (9 : Int32) rfl kb_9 (g)))))) ?_
      refine J_sq (fun (t46 : Int32) (σ47 : q_H) => q_G (q_rf fo) d m_Sr_parse o σ' 95 [some (.ref v0), some (.int v1), none, none] [.int t46, .int v1, .ref v0] σ47) ?_ (fun t46 σ47 => ?_)
      · refine J_ite (fun h45 => ?_) (fun h45 => ?_)
        · exact J_some (fun h => j_icmp_f rfl (cc_ne_f h45) (j_iconst (1 : Int32) rfl k32_1 (j_goto rfl (j_weak (l := [some (.ref v0), some (.int v1), none, none]) (And.intro (Or.inr rfl) (And.intro (Or.inr rfl) (And.intro (Or.inl rfl) (And.intro (Or.inr rfl) True.intro)))) (h)))))
        exact J_some (fun h => j_icmp_t rfl (cc_ne_t h45) (j_iconst (0 : Int32) rfl k32_0 (j_weak (l := [some (.ref v0), some (.int v1), none, none]) (And.intro (Or.inr rfl) (And.intro (Or.inr rfl) (And.intro (Or.inl rfl) (And.intro (Or.inr rfl) True.intro)))) (h))))
      refine J_bind fun w48 hw48 => ?_
      refine J_cl fun x50 σ49 hσ49 => ?_
      refine q_J.step (fun g => j_v1 [.ref v0, .int v1, .int t46] [] rfl rfl rfl rfl rfl rfl hw48 (Or.inl rfl) (t_Sr_parseHead (by omega) hσ49) (j_istore_n [some (.ref v0), some (.int v1), none, some (.int x50)] rfl rfl (Or.inr True.intro) rfl (j_iload_n rfl rfl (g)))) ?_
      refine J_sq (fun (t55 : Int32) (σ56 : q_H) => q_G (q_rf fo) d m_Sr_parse o σ' 109 [some (.ref v0), some (.int v1), none, some (.int t55)] [] σ56) ?_ (fun t55 σ56 => ?_)
      · refine J_ite (fun h51 => ?_) (fun h51 => ?_)
        · refine J_bind fun w52 hw52 => ?_
          refine J_cl fun x54 σ53 hσ53 => ?_
          exact J_some (fun h => j_if_f rfl (cc_ne_f h51) (j_aload_n rfl rfl (j_iload_n rfl rfl (j_v1 [.ref v0, .int v1] [] rfl rfl rfl rfl rfl rfl hw52 (Or.inl rfl) (t_Sr_parseTags (by omega) hσ53) (j_istore_n [some (.ref v0), some (.int v1), none, some (.int x54)] rfl rfl (Or.inr True.intro) rfl (h))))))
        exact J_some (fun h => j_if_t rfl (cc_ne_t h51) (h))
      refine q_J.step (fun g => j_iload_n rfl rfl (g)) ?_
      refine J_ite (fun h57 => ?_) (fun h57 => ?_)
      · refine J_bind fun x58 hx58 => ?_
        refine J_bind fun σ59 hσ59 => ?_
        exact q_J.step (fun g => j_if_t rfl (cc_eq_t h57) (j_aload_n rfl rfl (j_gfr rfl hx58 (j_iload_n rfl rfl (j_iconst (1 : Int32) rfl k32_1 (j_iadd rfl (j_putf rfl rfl rfl rfl hσ59 (j_iinc [some (.ref v0), some (.int (v1 + (1 : Int32))), none, some (.int t55)] (v1 + (1 : Int32)) rfl rfl (by rw [k32_1]) (Or.inr rfl) rfl (j_goto rfl (j_weak (l := [some (.ref v0), some (.int (v1 + (1 : Int32))), none, none]) (And.intro (Or.inr rfl) (And.intro (Or.inr rfl) (And.intro (Or.inr rfl) (And.intro (Or.inl rfl) True.intro)))) (g))))))))))) (l_Sr_parse_L9 hd v0 hR hX n (v1 + (1 : Int32)) σ59)
      exact J_some (fun h => j_if_f rfl (cc_eq_f h57) (j_iload_n rfl rfl (j_iret rfl rfl (hR _ _ h))))
    refine J_bind fun x60 hx60 => ?_
    refine J_bind fun w61 hw61 => ?_
    refine J_cl fun x63 σ62 hσ62 => ?_
    exact J_some (fun h => j_icmp_f rfl (cc_eq_f h39) (j_aload_n rfl rfl (j_gfr rfl hx60 (j_iconst (1 : Int32) rfl k32_1 (j_v1 [.ref x60, .int (1 : Int32)] [] rfl rfl rfl rfl rfl rfl hw61 (Or.inl rfl) (t_Ta_fault (by omega) hσ62) (j_iret rfl rfl (hR _ _ h)))))))

def f_Sr_parse (v0 : Nat) (σ : q_H) : Option ((Int32) × q_H) := (q_gr (q_gf σ 7 v0 0)).bind fun x1 => (q_ob σ 1 x1).bind fun w2 => q_sq (f_Ta_start x1 σ) fun (_ : Unit) σ3 => q_sq (f_Sr_parse_L9 v0 q_FU (0 : Int32) σ3) fun (t0 : Int32 ⊕ Unit) σ65 => match t0 with | .inl r66 => some (r66, σ65) | .inr t64 => (some ((0 : Int32), σ65))
set_option maxRecDepth 100000 in
theorem b_Sr_parse {fo : Option Nat} {d : Nat} (hd : 8 ≤ d + 1) {o : q_O} {σ' : q_H} (v0 : Nat) (σ : q_H) : q_J (fun (r : Int32) (σ1 : q_H) => o = .inl (some (.int r)) ∧ σ' = σ1) (f_Sr_parse v0 σ) (q_G (q_rf fo) d m_Sr_parse o σ' 0 [some (.ref v0), none, none, none] [] σ) := by
  unfold f_Sr_parse
  refine J_bind fun x1 hx1 => ?_
  refine J_bind fun w2 hw2 => ?_
  refine J_cl fun _ σ3 hσ3 => ?_
  refine J_sq (fun (t0 : Int32 ⊕ Unit) (σ65 : q_H) => match t0 with | .inl r => o = .inl (some (.int r)) ∧ σ' = σ65 | .inr t64 => q_G (q_rf fo) d m_Sr_parse o σ' 131 [none, none, none, none] [] σ65) (q_J.step (fun g => j_aload_n rfl rfl (j_gfr rfl hx1 (j_v0 [.ref x1] [] rfl rfl rfl rfl rfl rfl hw2 (Or.inl rfl) (t_Ta_start (by omega) hσ3) (j_iconst (0 : Int32) rfl k32_0 (j_istore_n [some (.ref v0), some (.int (0 : Int32)), none, none] rfl rfl (Or.inr rfl) rfl (g)))))) (l_Sr_parse_L9 hd v0 (fun _ _ h => h) (fun _ _ h => h) q_FU (0 : Int32) σ3)) (fun t0 σ65 => ?_)
  cases t0 with
  | inl r66 => exact J_some (fun h => h)
  | inr t64 =>
    exact J_some (fun h => j_iconst (0 : Int32) rfl k32_0 (j_iret rfl rfl h))
theorem t_Sr_parse {fo : Option Nat} {d : Nat} (hd : 8 ≤ d) {v0 : Nat} {σ σ1 : q_H} {r : Int32} (h : f_Sr_parse v0 σ = some (r, σ1)) : q_Rel (q_rf fo) q_Ms d 73 [.ref v0] σ (.inl (some (.int r))) σ1 := by
  obtain ⟨d, rfl⟩ : ∃ d1, d = d1 + 1 := ⟨d - 1, by omega⟩
  exact q_Rel.of rfl rfl (b_Sr_parse hd _ σ _ _ h ⟨rfl, rfl⟩)

