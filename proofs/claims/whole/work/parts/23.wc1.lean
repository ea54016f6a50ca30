/-! Methods of the class: walks: by program. -/
set_option maxRecDepth 100000 in
theorem b_St_coder {fo : Option Nat} {d : Nat} (hd : 1 ≤ d + 1) {o : q_O} {σ' : q_H} (v0 : Nat) (σ : q_H) : q_J (fun (r : Int32) (σ1 : q_H) => o = .inl (some (.int r)) ∧ σ' = σ1) (f_St_coder v0 σ) (q_G (q_rf fo) d m_St_coder o σ' 0 [some (.ref v0)] [] σ) := by
  unfold f_St_coder
  refine q_J.step (fun g => j_gets (.int 1) rfl rfl (g)) ?_
  refine J_ite (fun h1 => ?_) (fun h1 => ?_)
  · refine q_J.step (fun g => j_if_t rfl (cc_eq_t h1) (j_iconst (1 : Int32) rfl k32_1 (g))) ?_
    refine J_ite (fun _ => J_none) (fun hz => ?_)
    replace hz := Decidable.not_not.mp hz
    exact J_some (fun h => j_iret rfl hz h)
  refine J_bind fun x2 hx2 => ?_
  refine q_J.step (fun g => j_if_f rfl (cc_eq_f h1) (j_aload_n rfl rfl (j_gfi rfl hx2 (j_goto rfl (g))))) ?_
  refine J_ite (fun _ => J_none) (fun hz => ?_)
  replace hz := Decidable.not_not.mp hz
  exact J_some (fun h => j_iret rfl hz h)
theorem t_St_coder {fo : Option Nat} {d : Nat} (hd : 1 ≤ d) {v0 : Nat} {σ σ1 : q_H} {r : Int32} (h : f_St_coder v0 σ = some (r, σ1)) : q_Rel (q_rf fo) q_Ms d 0 [.ref v0] σ (.inl (some (.int r))) σ1 := by
  obtain ⟨d, rfl⟩ : ∃ d1, d = d1 + 1 := ⟨d - 1, by omega⟩
  exact q_Rel.of rfl rfl (b_St_coder hd _ σ _ _ h ⟨rfl, rfl⟩)

set_option maxRecDepth 100000 in
theorem b_St_isLatin1 {fo : Option Nat} {d : Nat} (hd : 1 ≤ d + 1) {o : q_O} {σ' : q_H} (v0 : Nat) (σ : q_H) : q_J (fun (r : Int32) (σ1 : q_H) => o = .inl (some (.int r)) ∧ σ' = σ1) (f_St_isLatin1 v0 σ) (q_G (q_rf fo) d m_St_isLatin1 o σ' 0 [some (.ref v0)] [] σ) := by
  unfold f_St_isLatin1
  refine q_J.step (fun g => j_gets (.int 1) rfl rfl (g)) ?_
  refine J_ite (fun h1 => ?_) (fun h1 => ?_)
  · exact J_some (fun h => j_if_t rfl (cc_eq_t h1) (j_iconst (0 : Int32) rfl k32_0 (j_iret rfl (q_zr (Or.inl rfl)) h)))
  refine J_bind fun x2 hx2 => ?_
  refine q_J.step (fun g => j_if_f rfl (cc_eq_f h1) (j_aload_n rfl rfl (j_gfi rfl hx2 (g)))) ?_
  refine J_ite (fun h3 => ?_) (fun h3 => ?_)
  · exact J_some (fun h => j_if_f rfl (cc_ne_f h3) (j_iconst (1 : Int32) rfl k32_1 (j_goto rfl (j_iret rfl (q_zr (Or.inr rfl)) h))))
  exact J_some (fun h => j_if_t rfl (cc_ne_t h3) (j_iconst (0 : Int32) rfl k32_0 (j_iret rfl (q_zr (Or.inl rfl)) h)))
theorem t_St_isLatin1 {fo : Option Nat} {d : Nat} (hd : 1 ≤ d) {v0 : Nat} {σ σ1 : q_H} {r : Int32} (h : f_St_isLatin1 v0 σ = some (r, σ1)) : q_Rel (q_rf fo) q_Ms d 2 [.ref v0] σ (.inl (some (.int r))) σ1 := by
  obtain ⟨d, rfl⟩ : ∃ d1, d = d1 + 1 := ⟨d - 1, by omega⟩
  exact q_Rel.of rfl rfl (b_St_isLatin1 hd _ σ _ _ h ⟨rfl, rfl⟩)

set_option maxRecDepth 100000 in
theorem b_Pc_checkIndex {fo : Option Nat} {d : Nat} (hd : 1 ≤ d + 1) {o : q_O} {σ' : q_H} (v0 : Int32) (v1 : Int32) (σ : q_H) : q_J (fun (r : Int32) (σ1 : q_H) => o = .inl (some (.int r)) ∧ σ' = σ1) (f_Pc_checkIndex v0 v1 σ) (q_G (q_rf fo) d m_Pc_checkIndex o σ' 0 [some (.int v0), some (.int v1), some (q_rf fo)] [] σ) := by
  unfold f_Pc_checkIndex
  refine q_J.step (fun g => j_iload_n rfl rfl (g)) ?_
  refine J_ite (fun h1 => ?_) (fun h1 => ?_)
  · exact J_none
  refine q_J.step (fun g => j_if_f rfl (cc_lt_f h1) (j_iload_n rfl rfl (j_iload_n rfl rfl (g)))) ?_
  refine J_ite (fun h2 => ?_) (fun h2 => ?_)
  · exact J_some (fun h => j_icmp_t rfl (cc_lt_t h2) (j_iload_n rfl rfl (j_iret rfl rfl h)))
  exact J_none
theorem t_Pc_checkIndex {fo : Option Nat} {d : Nat} (hd : 1 ≤ d) {v0 : Int32} {v1 : Int32} {σ σ1 : q_H} {r : Int32} (h : f_Pc_checkIndex v0 v1 σ = some (r, σ1)) : q_Rel (q_rf fo) q_Ms d 3 [.int v0, .int v1, q_rf fo] σ (.inl (some (.int r))) σ1 := by
  obtain ⟨d, rfl⟩ : ∃ d1, d = d1 + 1 := ⟨d - 1, by omega⟩
  cases fo <;> exact q_Rel.of rfl rfl (b_Pc_checkIndex hd _ _ σ _ _ h ⟨rfl, rfl⟩)

set_option maxRecDepth 100000 in
theorem b_Sl_canEncode {fo : Option Nat} {d : Nat} (hd : 1 ≤ d + 1) {o : q_O} {σ' : q_H} (v0 : Int32) (σ : q_H) : q_J (fun (r : Int32) (σ1 : q_H) => o = .inl (some (.int r)) ∧ σ' = σ1) (f_Sl_canEncode v0 σ) (q_G (q_rf fo) d m_Sl_canEncode o σ' 0 [some (.int v0)] [] σ) := by
  unfold f_Sl_canEncode
  refine q_J.step (fun g => j_iload_n rfl rfl (g)) ?_
  refine J_ite (fun h1 => ?_) (fun h1 => ?_)
  · exact J_some (fun h => j_if_t rfl (cc_lt_t h1) (j_iconst (0 : Int32) rfl k32_0 (j_iret rfl (q_zr (Or.inl rfl)) h)))
  refine q_J.step (fun g => j_if_f rfl (cc_lt_f h1) (j_iload_n rfl rfl (j_sipush (255 : Int32) rfl ks_255 (g)))) ?_
  refine J_ite (fun h2 => ?_) (fun h2 => ?_)
  · exact J_some (fun h => j_icmp_t rfl (cc_gt_t h2) (j_iconst (0 : Int32) rfl k32_0 (j_iret rfl (q_zr (Or.inl rfl)) h)))
  exact J_some (fun h => j_icmp_f rfl (cc_gt_f h2) (j_iconst (1 : Int32) rfl k32_1 (j_goto rfl (j_iret rfl (q_zr (Or.inr rfl)) h))))
theorem t_Sl_canEncode {fo : Option Nat} {d : Nat} (hd : 1 ≤ d) {v0 : Int32} {σ σ1 : q_H} {r : Int32} (h : f_Sl_canEncode v0 σ = some (r, σ1)) : q_Rel (q_rf fo) q_Ms d 7 [.int v0] σ (.inl (some (.int r))) σ1 := by
  obtain ⟨d, rfl⟩ : ∃ d1, d = d1 + 1 := ⟨d - 1, by omega⟩
  exact q_Rel.of rfl rfl (b_Sl_canEncode hd _ σ _ _ h ⟨rfl, rfl⟩)

set_option maxRecDepth 100000 in
theorem l_Sl_indexOfChar_L7 {fo : Option Nat} {d : Nat} (hd : 1 ≤ d + 1) {o : q_O} {σ' : q_H} {E : (Int32 ⊕ Unit) → q_H → Prop} (v0 : Nat) (v3 : Int32) (v4 : Int32) (hR : ∀ r σ1, E (.inl r) σ1 → o = .inl (some (.int r)) ∧ σ' = σ1) (hX : ∀ (t : Unit) σ1, E (.inr t) σ1 → q_G (q_rf fo) d m_Sl_indexOfChar o σ' 31 [none, none, none, none, none, none] [] σ1)  : ∀ (n : Nat) (v5 : Int32) (σ : q_H), q_J E (f_Sl_indexOfChar_L7 v0 v3 v4 n v5 σ) (q_G (q_rf fo) d m_Sl_indexOfChar o σ' 7 [some (.ref v0), none, none, some (.int v3), some (.int v4), some (.int v5)] [] σ)
  | 0, v5, σ => J_none
  | n + 1, v5, σ => by
    unfold f_Sl_indexOfChar_L7
    refine q_J.step (fun g => j_iload rfl rfl (j_iload_n rfl rfl (g))) ?_
    refine J_ite (fun h1 => ?_) (fun h1 => ?_)
    · refine J_bind fun x2 hx2 => ?_
      refine q_J.step (fun g => j_icmp_f rfl (cc_ge_f h1) (j_aload_n rfl rfl (j_iload rfl rfl (j_bal rfl rfl hx2 (j_iload rfl rfl (g)))))) ?_
      refine J_ite (fun h3 => ?_) (fun h3 => ?_)
      · exact J_some (fun h => j_icmp_f rfl (cc_ne_f h3) (j_iload rfl rfl (j_iret rfl rfl (hR _ _ h))))
      exact q_J.step (fun g => j_icmp_t rfl (cc_ne_t h3) (j_iinc [some (.ref v0), none, none, some (.int v3), some (.int v4), some (.int (v5 + (1 : Int32)))] (v5 + (1 : Int32)) rfl rfl (by rw [k32_1]) (Or.inr rfl) rfl (j_goto rfl (g)))) (l_Sl_indexOfChar_L7 hd v0 v3 v4 hR hX n (v5 + (1 : Int32)) σ)
    exact J_some (fun h => j_icmp_t rfl (cc_ge_t h1) (j_weak (l := [none, none, none, none, none, none]) (And.intro (Or.inl rfl) (And.intro (Or.inr rfl) (And.intro (Or.inr rfl) (And.intro (Or.inl rfl) (And.intro (Or.inl rfl) (And.intro (Or.inl rfl) True.intro)))))) (hX _ _ h)))

set_option maxRecDepth 100000 in
theorem b_Sl_indexOfChar {fo : Option Nat} {d : Nat} (hd : 1 ≤ d + 1) {o : q_O} {σ' : q_H} (v0 : Nat) (v1 : Int32) (v2 : Int32) (v3 : Int32) (σ : q_H) : q_J (fun (r : Int32) (σ1 : q_H) => o = .inl (some (.int r)) ∧ σ' = σ1) (f_Sl_indexOfChar v0 v1 v2 v3 σ) (q_G (q_rf fo) d m_Sl_indexOfChar o σ' 0 [some (.ref v0), some (.int v1), some (.int v2), some (.int v3), none, none] [] σ) := by
  unfold f_Sl_indexOfChar
  refine J_sq (fun (t0 : Int32 ⊕ Unit) (σ2 : q_H) => match t0 with | .inl r => o = .inl (some (.int r)) ∧ σ' = σ2 | .inr t1 => q_G (q_rf fo) d m_Sl_indexOfChar o σ' 31 [none, none, none, none, none, none] [] σ2) (q_J.step (fun g => j_iload_n rfl rfl (j_i2b rfl (j_istore [some (.ref v0), some (.int v1), some (.int v2), some (.int v3), some (.int v1.toInt8.toInt32), none] rfl rfl (Or.inr rfl) rfl (j_iload_n rfl rfl (j_istore [some (.ref v0), some (.int v1), some (.int v2), some (.int v3), some (.int v1.toInt8.toInt32), some (.int v2)] rfl rfl (Or.inr rfl) rfl (j_weak (l := [some (.ref v0), none, none, some (.int v3), some (.int v1.toInt8.toInt32), some (.int v2)]) (And.intro (Or.inr rfl) (And.intro (Or.inl rfl) (And.intro (Or.inl rfl) (And.intro (Or.inr rfl) (And.intro (Or.inr rfl) (And.intro (Or.inr rfl) True.intro)))))) (g))))))) (l_Sl_indexOfChar_L7 hd v0 v3 v1.toInt8.toInt32 (fun _ _ h => h) (fun _ _ h => h) q_FU v2 σ)) (fun t0 σ2 => ?_)
  cases t0 with
  | inl r3 => exact J_some (fun h => h)
  | inr t1 =>
    exact J_some (fun h => j_iconst (-1 : Int32) rfl k32_m1 (j_iret rfl rfl h))
theorem t_Sl_indexOfChar {fo : Option Nat} {d : Nat} (hd : 1 ≤ d) {v0 : Nat} {v1 : Int32} {v2 : Int32} {v3 : Int32} {σ σ1 : q_H} {r : Int32} (h : f_Sl_indexOfChar v0 v1 v2 v3 σ = some (r, σ1)) : q_Rel (q_rf fo) q_Ms d 8 [.ref v0, .int v1, .int v2, .int v3] σ (.inl (some (.int r))) σ1 := by
  obtain ⟨d, rfl⟩ : ∃ d1, d = d1 + 1 := ⟨d - 1, by omega⟩
  exact q_Rel.of rfl rfl (b_Sl_indexOfChar hd _ _ _ _ σ _ _ h ⟨rfl, rfl⟩)

set_option maxRecDepth 100000 in
theorem b_St_length {fo : Option Nat} {d : Nat} (hd : 2 ≤ d + 1) {o : q_O} {σ' : q_H} (v0 : Nat) (σ : q_H) : q_J (fun (r : Int32) (σ1 : q_H) => o = .inl (some (.int r)) ∧ σ' = σ1) (f_St_length v0 σ) (q_G (q_rf fo) d m_St_length o σ' 0 [some (.ref v0)] [] σ) := by
  unfold f_St_length
  refine J_bind fun x1 hx1 => ?_
  refine J_bind fun x2 hx2 => ?_
  refine J_bind fun w3 hw3 => ?_
  refine J_cl fun x5 σ4 hσ4 => ?_
  exact J_some (fun h => j_aload_n rfl rfl (j_gfr rfl hx1 (j_alen rfl hx2 (j_aload_n rfl rfl (j_v1 [.ref v0] [.int x2] rfl rfl rfl rfl rfl rfl hw3 (Or.inr ⟨rfl, rfl⟩) (t_St_coder (by omega) hσ4) (j_ishr rfl (j_iret rfl rfl h)))))))
theorem t_St_length {fo : Option Nat} {d : Nat} (hd : 2 ≤ d) {v0 : Nat} {σ σ1 : q_H} {r : Int32} (h : f_St_length v0 σ = some (r, σ1)) : q_Rel (q_rf fo) q_Ms d 1 [.ref v0] σ (.inl (some (.int r))) σ1 := by
  obtain ⟨d, rfl⟩ : ∃ d1, d = d1 + 1 := ⟨d - 1, by omega⟩
  exact q_Rel.of rfl rfl (b_St_length hd _ σ _ _ h ⟨rfl, rfl⟩)

set_option maxRecDepth 100000 in
theorem b_St_checkIndex {fo : Option Nat} {d : Nat} (hd : 2 ≤ d + 1) {o : q_O} {σ' : q_H} (v0 : Int32) (v1 : Int32) (σ : q_H) : q_J (fun (r : Unit) (σ1 : q_H) => o = .inl none ∧ σ' = σ1) (f_St_checkIndex v0 v1 σ) (q_G (q_rf fo) d m_St_checkIndex o σ' 0 [some (.int v0), some (.int v1)] [] σ) := by
  unfold f_St_checkIndex
  refine J_cl fun x2 σ1 hσ1 => ?_
  exact J_some (fun h => j_iload_n rfl rfl (j_iload_n rfl rfl (j_gets (q_rf fo) rfl rfl (j_s1 [.int v0, .int v1, q_rf fo] [] rfl rfl rfl rfl rfl (t_Pc_checkIndex (by omega) hσ1) (j_pop rfl rfl (j_vret rfl rfl h))))))
theorem t_St_checkIndex {fo : Option Nat} {d : Nat} (hd : 2 ≤ d) {v0 : Int32} {v1 : Int32} {σ σ1 : q_H} {r : Unit} (h : f_St_checkIndex v0 v1 σ = some (r, σ1)) : q_Rel (q_rf fo) q_Ms d 4 [.int v0, .int v1] σ (.inl none) σ1 := by
  obtain ⟨d, rfl⟩ : ∃ d1, d = d1 + 1 := ⟨d - 1, by omega⟩
  exact q_Rel.of rfl rfl (b_St_checkIndex hd _ _ σ _ _ h ⟨rfl, rfl⟩)

set_option maxRecDepth 100000 in
theorem b_Sl_indexOf {fo : Option Nat} {d : Nat} (hd : 2 ≤ d + 1) {o : q_O} {σ' : q_H} (v0 : Nat) (v1 : Int32) (v2 : Int32) (v3 : Int32) (σ : q_H) : q_J (fun (r : Int32) (σ1 : q_H) => o = .inl (some (.int r)) ∧ σ' = σ1) (f_Sl_indexOf v0 v1 v2 v3 σ) (q_G (q_rf fo) d m_Sl_indexOf o σ' 0 [some (.ref v0), some (.int v1), some (.int v2), some (.int v3)] [] σ) := by
  unfold f_Sl_indexOf
  refine J_cl fun x2 σ1 hσ1 => ?_
  refine q_J.step (fun g => j_iload_n rfl rfl (j_s1 [.int v1] [] rfl rfl rfl rfl rfl (t_Sl_canEncode (by omega) hσ1) (g))) ?_
  refine J_ite (fun h3 => ?_) (fun h3 => ?_)
  · exact J_some (fun h => j_if_f rfl (cc_ne_f h3) (j_iconst (-1 : Int32) rfl k32_m1 (j_iret rfl rfl h)))
  refine J_bind fun x4 hx4 => ?_
  refine q_J.step (fun g => j_if_t rfl (cc_ne_t h3) (j_iload_n rfl rfl (j_iconst (0 : Int32) rfl k32_0 (j_max rfl rfl (j_istore_n [some (.ref v0), some (.int v1), some (.int (if v2 < (0 : Int32) then (0 : Int32) else v2)), some (.int v3)] rfl rfl (Or.inr rfl) rfl (j_iload_n rfl rfl (j_aload_n rfl rfl (j_alen rfl hx4 (j_min rfl rfl (j_istore_n [some (.ref v0), some (.int v1), some (.int (if v2 < (0 : Int32) then (0 : Int32) else v2)), some (.int (if x4 < v3 then x4 else v3))] rfl rfl (Or.inr rfl) rfl (j_iload_n rfl rfl (j_iload_n rfl rfl (g))))))))))))) ?_
  refine J_ite (fun h5 => ?_) (fun h5 => ?_)
  · refine J_cl fun x7 σ6 hσ6 => ?_
    exact J_some (fun h => j_icmp_t rfl (cc_lt_t h5) (j_aload_n rfl rfl (j_iload_n rfl rfl (j_iload_n rfl rfl (j_iload_n rfl rfl (j_s1 [.ref v0, .int v1, .int (if v2 < (0 : Int32) then (0 : Int32) else v2), .int (if x4 < v3 then x4 else v3)] [] rfl rfl rfl rfl rfl (t_Sl_indexOfChar (by omega) hσ6) (j_iret rfl rfl h)))))))
  exact J_some (fun h => j_icmp_f rfl (cc_lt_f h5) (j_iconst (-1 : Int32) rfl k32_m1 (j_iret rfl rfl h)))
theorem t_Sl_indexOf {fo : Option Nat} {d : Nat} (hd : 2 ≤ d) {v0 : Nat} {v1 : Int32} {v2 : Int32} {v3 : Int32} {σ σ1 : q_H} {r : Int32} (h : f_Sl_indexOf v0 v1 v2 v3 σ = some (r, σ1)) : q_Rel (q_rf fo) q_Ms d 9 [.ref v0, .int v1, .int v2, .int v3] σ (.inl (some (.int r))) σ1 := by
  obtain ⟨d, rfl⟩ : ∃ d1, d = d1 + 1 := ⟨d - 1, by omega⟩
  exact q_Rel.of rfl rfl (b_Sl_indexOf hd _ _ _ _ σ _ _ h ⟨rfl, rfl⟩)

set_option maxRecDepth 100000 in
theorem b_Sl_charAt {fo : Option Nat} {d : Nat} (hd : 3 ≤ d + 1) {o : q_O} {σ' : q_H} (v0 : Nat) (v1 : Int32) (σ : q_H) : q_J (fun (r : Int32) (σ1 : q_H) => o = .inl (some (.int r)) ∧ σ' = σ1) (f_Sl_charAt v0 v1 σ) (q_G (q_rf fo) d m_Sl_charAt o σ' 0 [some (.ref v0), some (.int v1)] [] σ) := by
  unfold f_Sl_charAt
  refine J_bind fun x1 hx1 => ?_
  refine J_cl fun _ σ2 hσ2 => ?_
  refine J_bind fun x4 hx4 => ?_
  refine q_J.step (fun g => j_iload_n rfl rfl (j_aload_n rfl rfl (j_alen rfl hx1 (j_s0 [.int v1, .int x1] [] rfl rfl rfl rfl rfl (t_St_checkIndex (by omega) hσ2) (j_aload_n rfl rfl (j_iload_n rfl rfl (j_bal rfl rfl hx4 (j_sipush (255 : Int32) rfl ks_255 (j_iand rfl (j_i2c rfl (g))))))))))) ?_
  refine J_ite (fun _ => J_none) (fun hz => ?_)
  replace hz := Decidable.not_not.mp hz
  exact J_some (fun h => j_iret rfl hz h)
theorem t_Sl_charAt {fo : Option Nat} {d : Nat} (hd : 3 ≤ d) {v0 : Nat} {v1 : Int32} {σ σ1 : q_H} {r : Int32} (h : f_Sl_charAt v0 v1 σ = some (r, σ1)) : q_Rel (q_rf fo) q_Ms d 5 [.ref v0, .int v1] σ (.inl (some (.int r))) σ1 := by
  obtain ⟨d, rfl⟩ : ∃ d1, d = d1 + 1 := ⟨d - 1, by omega⟩
  exact q_Rel.of rfl rfl (b_Sl_charAt hd _ _ σ _ _ h ⟨rfl, rfl⟩)

set_option maxRecDepth 100000 in
theorem b_St_indexOf0 {fo : Option Nat} {d : Nat} (hd : 3 ≤ d + 1) {o : q_O} {σ' : q_H} (v0 : Nat) (v1 : Int32) (v2 : Int32) (σ : q_H) : q_J (fun (r : Int32) (σ1 : q_H) => o = .inl (some (.int r)) ∧ σ' = σ1) (f_St_indexOf0 v0 v1 v2 σ) (q_G (q_rf fo) d m_St_indexOf0 o σ' 0 [some (.ref v0), some (.int v1), some (.int v2)] [] σ) := by
  unfold f_St_indexOf0
  refine J_bind fun w1 hw1 => ?_
  refine J_cl fun x3 σ2 hσ2 => ?_
  refine q_J.step (fun g => j_aload_n rfl rfl (j_v1 [.ref v0] [] rfl rfl rfl rfl rfl rfl hw1 (Or.inr ⟨rfl, rfl⟩) (t_St_isLatin1 (by omega) hσ2) (g))) ?_
  refine J_ite (fun h4 => ?_) (fun h4 => ?_)
  · refine J_bind fun x5 hx5 => ?_
    refine J_bind fun w6 hw6 => ?_
    refine J_cl fun x8 σ7 hσ7 => ?_
    exact J_none
  refine J_bind fun x9 hx9 => ?_
  refine J_bind fun w10 hw10 => ?_
  refine J_cl fun x12 σ11 hσ11 => ?_
  refine J_cl fun x14 σ13 hσ13 => ?_
  exact J_some (fun h => j_if_f rfl (cc_eq_f h4) (j_aload_n rfl rfl (j_gfr rfl hx9 (j_iload_n rfl rfl (j_iload_n rfl rfl (j_aload_n rfl rfl (j_v1 [.ref v0] [.int v2, .int v1, .ref x9] rfl rfl rfl rfl rfl rfl hw10 (Or.inr ⟨rfl, rfl⟩) (t_St_length (by omega) hσ11) (j_s1 [.ref x9, .int v1, .int v2, .int x12] [] rfl rfl rfl rfl rfl (t_Sl_indexOf (by omega) hσ13) (j_goto rfl (j_iret rfl rfl h))))))))))
theorem t_St_indexOf0 {fo : Option Nat} {d : Nat} (hd : 3 ≤ d) {v0 : Nat} {v1 : Int32} {v2 : Int32} {σ σ1 : q_H} {r : Int32} (h : f_St_indexOf0 v0 v1 v2 σ = some (r, σ1)) : q_Rel (q_rf fo) q_Ms d 10 [.ref v0, .int v1, .int v2] σ (.inl (some (.int r))) σ1 := by
  obtain ⟨d, rfl⟩ : ∃ d1, d = d1 + 1 := ⟨d - 1, by omega⟩
  exact q_Rel.of rfl rfl (b_St_indexOf0 hd _ _ _ σ _ _ h ⟨rfl, rfl⟩)

set_option maxRecDepth 100000 in
theorem b_St_charAt {fo : Option Nat} {d : Nat} (hd : 4 ≤ d + 1) {o : q_O} {σ' : q_H} (v0 : Nat) (v1 : Int32) (σ : q_H) : q_J (fun (r : Int32) (σ1 : q_H) => o = .inl (some (.int r)) ∧ σ' = σ1) (f_St_charAt v0 v1 σ) (q_G (q_rf fo) d m_St_charAt o σ' 0 [some (.ref v0), some (.int v1)] [] σ) := by
  unfold f_St_charAt
  refine J_bind fun w1 hw1 => ?_
  refine J_cl fun x3 σ2 hσ2 => ?_
  refine q_J.step (fun g => j_aload_n rfl rfl (j_v1 [.ref v0] [] rfl rfl rfl rfl rfl rfl hw1 (Or.inr ⟨rfl, rfl⟩) (t_St_isLatin1 (by omega) hσ2) (g))) ?_
  refine J_ite (fun h4 => ?_) (fun h4 => ?_)
  · refine J_bind fun x5 hx5 => ?_
    exact J_none
  refine J_bind fun x6 hx6 => ?_
  refine J_cl fun x8 σ7 hσ7 => ?_
  refine q_J.step (fun g => j_if_f rfl (cc_eq_f h4) (j_aload_n rfl rfl (j_gfr rfl hx6 (j_iload_n rfl rfl (j_s1 [.ref x6, .int v1] [] rfl rfl rfl rfl rfl (t_Sl_charAt (by omega) hσ7) (g)))))) ?_
  refine J_ite (fun _ => J_none) (fun hz => ?_)
  replace hz := Decidable.not_not.mp hz
  exact J_some (fun h => j_iret rfl hz h)
theorem t_St_charAt {fo : Option Nat} {d : Nat} (hd : 4 ≤ d) {v0 : Nat} {v1 : Int32} {σ σ1 : q_H} {r : Int32} (h : f_St_charAt v0 v1 σ = some (r, σ1)) : q_Rel (q_rf fo) q_Ms d 6 [.ref v0, .int v1] σ (.inl (some (.int r))) σ1 := by
  obtain ⟨d, rfl⟩ : ∃ d1, d = d1 + 1 := ⟨d - 1, by omega⟩
  exact q_Rel.of rfl rfl (b_St_charAt hd _ _ σ _ _ h ⟨rfl, rfl⟩)

set_option maxRecDepth 100000 in
theorem b_St_indexOf1 {fo : Option Nat} {d : Nat} (hd : 4 ≤ d + 1) {o : q_O} {σ' : q_H} (v0 : Nat) (v1 : Int32) (σ : q_H) : q_J (fun (r : Int32) (σ1 : q_H) => o = .inl (some (.int r)) ∧ σ' = σ1) (f_St_indexOf1 v0 v1 σ) (q_G (q_rf fo) d m_St_indexOf1 o σ' 0 [some (.ref v0), some (.int v1)] [] σ) := by
  unfold f_St_indexOf1
  refine J_bind fun w1 hw1 => ?_
  refine J_cl fun x3 σ2 hσ2 => ?_
  exact J_some (fun h => j_aload_n rfl rfl (j_iload_n rfl rfl (j_iconst (0 : Int32) rfl k32_0 (j_v1 [.ref v0, .int v1, .int (0 : Int32)] [] rfl rfl rfl rfl rfl rfl hw1 (Or.inr ⟨rfl, rfl⟩) (t_St_indexOf0 (by omega) hσ2) (j_iret rfl rfl h)))))
theorem t_St_indexOf1 {fo : Option Nat} {d : Nat} (hd : 4 ≤ d) {v0 : Nat} {v1 : Int32} {σ σ1 : q_H} {r : Int32} (h : f_St_indexOf1 v0 v1 σ = some (r, σ1)) : q_Rel (q_rf fo) q_Ms d 11 [.ref v0, .int v1] σ (.inl (some (.int r))) σ1 := by
  obtain ⟨d, rfl⟩ : ∃ d1, d = d1 + 1 := ⟨d - 1, by omega⟩
  exact q_Rel.of rfl rfl (b_St_indexOf1 hd _ _ σ _ _ h ⟨rfl, rfl⟩)

set_option maxRecDepth 100000 in
theorem b_Ta_init {fo : Option Nat} {d : Nat} (hd : 1 ≤ d + 1) {o : q_O} {σ' : q_H} (v0 : Nat) (σ : q_H) : q_J (fun (r : Unit) (σ1 : q_H) => o = .inl none ∧ σ' = σ1) (f_Ta_init v0 σ) (q_G (q_rf fo) d m_Ta_init o σ' 0 [some (.ref v0)] [] σ) := by
  unfold f_Ta_init
  refine J_ma fun σ1 a2 hσ1 ha2 => ?_
  refine J_bind fun σ3 hσ3 => ?_
  exact J_some (fun h => j_aload_n rfl rfl (j_obj rfl rfl (j_aload_n rfl rfl (j_sipush (1000 : Int32) rfl ks_1000 (j_newk 1000 (.int 0) rfl rfl rfl (by decide) (by decide) hσ1 ha2 (j_putf rfl rfl rfl rfl hσ3 (j_vret rfl rfl h)))))))
theorem t_Ta_init {fo : Option Nat} {d : Nat} (hd : 1 ≤ d) {v0 : Nat} {σ σ1 : q_H} {r : Unit} (h : f_Ta_init v0 σ = some (r, σ1)) : q_Rel (q_rf fo) q_Ms d 12 [.ref v0] σ (.inl none) σ1 := by
  obtain ⟨d, rfl⟩ : ∃ d1, d = d1 + 1 := ⟨d - 1, by omega⟩
  exact q_Rel.of rfl rfl (b_Ta_init hd _ σ _ _ h ⟨rfl, rfl⟩)

set_option maxRecDepth 100000 in
theorem b_Ta_longer {fo : Option Nat} {d : Nat} (hd : 1 ≤ d + 1) {o : q_O} {σ' : q_H} (v0 : Int64) (v2 : Int32) (σ : q_H) : q_J (fun (r : Int64) (σ1 : q_H) => o = .inl (some (.long r)) ∧ σ' = σ1) (f_Ta_longer v0 v2 σ) (q_G (q_rf fo) d m_Ta_longer o σ' 0 [some (.long v0), none, some (.int v2)] [] σ) := by
  unfold f_Ta_longer
  exact J_some (fun h => j_lload_n rfl rfl (j_ldc2 (27 : Int64) rfl kw_27 (j_lmul rfl (j_iload_n rfl rfl (j_bipush (97 : Int32) rfl kb_97 (j_isub rfl (j_iconst (1 : Int32) rfl k32_1 (j_iadd rfl (j_i2l rfl (j_ladd rfl (j_lret rfl rfl h)))))))))))
theorem t_Ta_longer {fo : Option Nat} {d : Nat} (hd : 1 ≤ d) {v0 : Int64} {v2 : Int32} {σ σ1 : q_H} {r : Int64} (h : f_Ta_longer v0 v2 σ = some (r, σ1)) : q_Rel (q_rf fo) q_Ms d 14 [.long v0, .int v2] σ (.inl (some (.long r))) σ1 := by
  obtain ⟨d, rfl⟩ : ∃ d1, d = d1 + 1 := ⟨d - 1, by omega⟩
  exact q_Rel.of rfl rfl (b_Ta_longer hd _ _ σ _ _ h ⟨rfl, rfl⟩)

set_option maxRecDepth 100000 in
theorem b_Ta_start {fo : Option Nat} {d : Nat} (hd : 1 ≤ d + 1) {o : q_O} {σ' : q_H} (v0 : Nat) (σ : q_H) : q_J (fun (r : Unit) (σ1 : q_H) => o = .inl none ∧ σ' = σ1) (f_Ta_start v0 σ) (q_G (q_rf fo) d m_Ta_start o σ' 0 [some (.ref v0)] [] σ) := by
  unfold f_Ta_start
  refine J_bind fun σ1 hσ1 => ?_
  exact J_some (fun h => j_aload_n rfl rfl (j_iconst (0 : Int32) rfl k32_0 (j_putf rfl rfl rfl rfl hσ1 (j_vret rfl rfl h))))
theorem t_Ta_start {fo : Option Nat} {d : Nat} (hd : 1 ≤ d) {v0 : Nat} {σ σ1 : q_H} {r : Unit} (h : f_Ta_start v0 σ = some (r, σ1)) : q_Rel (q_rf fo) q_Ms d 16 [.ref v0] σ (.inl none) σ1 := by
  obtain ⟨d, rfl⟩ : ∃ d1, d = d1 + 1 := ⟨d - 1, by omega⟩
  exact q_Rel.of rfl rfl (b_Ta_start hd _ σ _ _ h ⟨rfl, rfl⟩)

set_option maxRecDepth 100000 in
theorem l_Ta_wordIn_L2 {fo : Option Nat} {d : Nat} (hd : 1 ≤ d + 1) {o : q_O} {σ' : q_H} {E : (Int32 ⊕ Unit) → q_H → Prop} (v0 : Nat) (v1 : Nat) (hR : ∀ r σ1, E (.inl r) σ1 → o = .inl (some (.int r)) ∧ σ' = σ1) (hX : ∀ (t : Unit) σ1, E (.inr t) σ1 → q_G (q_rf fo) d m_Ta_wordIn o σ' 35 [none, none, none] [] σ1)  : ∀ (n : Nat) (v2 : Int32) (σ : q_H), q_J E (f_Ta_wordIn_L2 v0 v1 n v2 σ) (q_G (q_rf fo) d m_Ta_wordIn o σ' 2 [some (.ref v0), some (.ref v1), some (.int v2)] [] σ)
  | 0, v2, σ => J_none
  | n + 1, v2, σ => by
    unfold f_Ta_wordIn_L2
    refine J_bind fun x1 hx1 => ?_
    refine q_J.step (fun g => j_aload_n rfl rfl (j_gfi rfl hx1 (j_iconst (1 : Int32) rfl k32_1 (g)))) ?_
    refine J_ite (fun h2 => ?_) (fun h2 => ?_)
    · refine J_bind fun x3 hx3 => ?_
      refine q_J.step (fun g => j_icmp_f rfl (cc_ne_f h2) (j_iload_n rfl rfl (j_aload_n rfl rfl (j_alen rfl hx3 (g))))) ?_
      refine J_ite (fun h4 => ?_) (fun h4 => ?_)
      · refine J_bind fun x5 hx5 => ?_
        refine J_bind fun x6 hx6 => ?_
        refine q_J.step (fun g => j_icmp_f rfl (cc_ge_f h4) (j_aload_n rfl rfl (j_iload_n rfl rfl (j_lal rfl hx5 (j_aload_n rfl rfl (j_gfl rfl hx6 (j_lcmp rfl (g)))))))) ?_
        refine J_ite (fun h7 => ?_) (fun h7 => ?_)
        · exact J_some (fun h => j_if_f rfl (lc_ne_f h7) (j_iload_n rfl rfl (j_iret rfl rfl (hR _ _ h))))
        exact q_J.step (fun g => j_if_t rfl (lc_ne_t h7) (j_iinc [some (.ref v0), some (.ref v1), some (.int (v2 + (1 : Int32)))] (v2 + (1 : Int32)) rfl rfl (by rw [k32_1]) (Or.inr rfl) rfl (j_goto rfl (g)))) (l_Ta_wordIn_L2 hd v0 v1 hR hX n (v2 + (1 : Int32)) σ)
      exact J_some (fun h => j_icmp_t rfl (cc_ge_t h4) (j_weak (l := [none, none, none]) (And.intro (Or.inl rfl) (And.intro (Or.inl rfl) (And.intro (Or.inl rfl) True.intro))) (hX _ _ h)))
    exact J_some (fun h => j_icmp_t rfl (cc_ne_t h2) (j_weak (l := [none, none, none]) (And.intro (Or.inl rfl) (And.intro (Or.inl rfl) (And.intro (Or.inl rfl) True.intro))) (hX _ _ h)))

set_option maxRecDepth 100000 in
theorem b_Ta_wordIn {fo : Option Nat} {d : Nat} (hd : 1 ≤ d + 1) {o : q_O} {σ' : q_H} (v0 : Nat) (v1 : Nat) (σ : q_H) : q_J (fun (r : Int32) (σ1 : q_H) => o = .inl (some (.int r)) ∧ σ' = σ1) (f_Ta_wordIn v0 v1 σ) (q_G (q_rf fo) d m_Ta_wordIn o σ' 0 [some (.ref v0), some (.ref v1), none] [] σ) := by
  unfold f_Ta_wordIn
  refine J_sq (fun (t0 : Int32 ⊕ Unit) (σ2 : q_H) => match t0 with | .inl r => o = .inl (some (.int r)) ∧ σ' = σ2 | .inr t1 => q_G (q_rf fo) d m_Ta_wordIn o σ' 35 [none, none, none] [] σ2) (q_J.step (fun g => j_iconst (0 : Int32) rfl k32_0 (j_istore_n [some (.ref v0), some (.ref v1), some (.int (0 : Int32))] rfl rfl (Or.inr rfl) rfl (g))) (l_Ta_wordIn_L2 hd v0 v1 (fun _ _ h => h) (fun _ _ h => h) q_FU (0 : Int32) σ)) (fun t0 σ2 => ?_)
  cases t0 with
  | inl r3 => exact J_some (fun h => h)
  | inr t1 =>
    exact J_some (fun h => j_iconst (-1 : Int32) rfl k32_m1 (j_iret rfl rfl h))
theorem t_Ta_wordIn {fo : Option Nat} {d : Nat} (hd : 1 ≤ d) {v0 : Nat} {v1 : Nat} {σ σ1 : q_H} {r : Int32} (h : f_Ta_wordIn v0 v1 σ = some (r, σ1)) : q_Rel (q_rf fo) q_Ms d 20 [.ref v0, .ref v1] σ (.inl (some (.int r))) σ1 := by
  obtain ⟨d, rfl⟩ : ∃ d1, d = d1 + 1 := ⟨d - 1, by omega⟩
  exact q_Rel.of rfl rfl (b_Ta_wordIn hd _ _ σ _ _ h ⟨rfl, rfl⟩)

set_option maxRecDepth 100000 in
theorem b_Ta_fault {fo : Option Nat} {d : Nat} (hd : 1 ≤ d + 1) {o : q_O} {σ' : q_H} (v0 : Nat) (v1 : Int32) (σ : q_H) : q_J (fun (r : Int32) (σ1 : q_H) => o = .inl (some (.int r)) ∧ σ' = σ1) (f_Ta_fault v0 v1 σ) (q_G (q_rf fo) d m_Ta_fault o σ' 0 [some (.ref v0), some (.int v1)] [] σ) := by
  unfold f_Ta_fault
  refine J_bind fun x1 hx1 => ?_
  exact J_some (fun h => j_iload_n rfl rfl (j_bipush (16 : Int32) rfl kb_16 (j_aload_n rfl rfl (j_gfi rfl hx1 (j_imul rfl (j_iadd rfl (j_iret rfl rfl h)))))))
theorem t_Ta_fault {fo : Option Nat} {d : Nat} (hd : 1 ≤ d) {v0 : Nat} {v1 : Int32} {σ σ1 : q_H} {r : Int32} (h : f_Ta_fault v0 v1 σ = some (r, σ1)) : q_Rel (q_rf fo) q_Ms d 21 [.ref v0, .int v1] σ (.inl (some (.int r))) σ1 := by
  obtain ⟨d, rfl⟩ : ∃ d1, d = d1 + 1 := ⟨d - 1, by omega⟩
  exact q_Rel.of rfl rfl (b_Ta_fault hd _ _ σ _ _ h ⟨rfl, rfl⟩)

set_option maxRecDepth 100000 in
theorem b_Ta_isSign {fo : Option Nat} {d : Nat} (hd : 1 ≤ d + 1) {o : q_O} {σ' : q_H} (v0 : Nat) (v1 : Int32) (σ : q_H) : q_J (fun (r : Int32) (σ1 : q_H) => o = .inl (some (.int r)) ∧ σ' = σ1) (f_Ta_isSign v0 v1 σ) (q_G (q_rf fo) d m_Ta_isSign o σ' 0 [some (.ref v0), some (.int v1)] [] σ) := by
  unfold f_Ta_isSign
  refine J_bind fun x1 hx1 => ?_
  refine q_J.step (fun g => j_aload_n rfl rfl (j_gfi rfl hx1 (j_iconst (3 : Int32) rfl k32_3 (g)))) ?_
  refine J_ite (fun h2 => ?_) (fun h2 => ?_)
  · refine J_bind fun x3 hx3 => ?_
    refine q_J.step (fun g => j_icmp_f rfl (cc_ne_f h2) (j_aload_n rfl rfl (j_gfl rfl hx3 (j_iload_n rfl rfl (j_i2l rfl (j_lcmp rfl (g))))))) ?_
    refine J_ite (fun h4 => ?_) (fun h4 => ?_)
    · exact J_some (fun h => j_if_f rfl (lc_ne_f h4) (j_iconst (1 : Int32) rfl k32_1 (j_goto rfl (j_iret rfl (q_zr (Or.inr rfl)) h))))
    exact J_some (fun h => j_if_t rfl (lc_ne_t h4) (j_iconst (0 : Int32) rfl k32_0 (j_iret rfl (q_zr (Or.inl rfl)) h)))
  exact J_some (fun h => j_icmp_t rfl (cc_ne_t h2) (j_iconst (0 : Int32) rfl k32_0 (j_iret rfl (q_zr (Or.inl rfl)) h)))
theorem t_Ta_isSign {fo : Option Nat} {d : Nat} (hd : 1 ≤ d) {v0 : Nat} {v1 : Int32} {σ σ1 : q_H} {r : Int32} (h : f_Ta_isSign v0 v1 σ = some (r, σ1)) : q_Rel (q_rf fo) q_Ms d 22 [.ref v0, .int v1] σ (.inl (some (.int r))) σ1 := by
  obtain ⟨d, rfl⟩ : ∃ d1, d = d1 + 1 := ⟨d - 1, by omega⟩
  exact q_Rel.of rfl rfl (b_Ta_isSign hd _ _ σ _ _ h ⟨rfl, rfl⟩)

set_option maxRecDepth 100000 in
theorem l_Ra_commonDivisor_L3 {fo : Option Nat} {d : Nat} (hd : 1 ≤ d + 1) {o : q_O} {σ' : q_H} {E : (Int64) → q_H → Prop}  (hX : ∀ (t : Int64) σ1, E (t) σ1 → q_G (q_rf fo) d m_Ra_commonDivisor o σ' 32 [some (.long t), none, none, none, none, none, none] [] σ1)  : ∀ (n : Nat) (v0 : Int64) (v2 : Int64) (v4 : Int32) (σ : q_H), q_J E (f_Ra_commonDivisor_L3  n v0 v2 v4 σ) (q_G (q_rf fo) d m_Ra_commonDivisor o σ' 3 [some (.long v0), none, some (.long v2), none, some (.int v4), none, none] [] σ)
  | 0, v0, v2, v4, σ => J_none
  | n + 1, v0, v2, v4, σ => by
    unfold f_Ra_commonDivisor_L3
    refine q_J.step (fun g => j_iload rfl rfl (j_bipush (100 : Int32) rfl kb_100 (g))) ?_
    refine J_ite (fun h1 => ?_) (fun h1 => ?_)
    · refine q_J.step (fun g => j_icmp_f rfl (cc_ge_f h1) (j_lload_n rfl rfl (j_lconst (0 : Int64) rfl kl_0 (j_lcmp rfl (g))))) ?_
      refine J_ite (fun h2 => ?_) (fun h2 => ?_)
      · exact J_some (fun h => j_if_t rfl (lc_eq_t h2) (j_weak (l := [some (.long v0), none, none, none, none, none, none]) (And.intro (Or.inr rfl) (And.intro (Or.inr rfl) (And.intro (Or.inl rfl) (And.intro (Or.inr rfl) (And.intro (Or.inl rfl) (And.intro (Or.inr rfl) (And.intro (Or.inr rfl) True.intro))))))) (hX _ _ h)))
      refine q_J.step (fun g => j_if_f rfl (lc_eq_f h2) (j_lload_n rfl rfl (j_lload_n rfl rfl (g)))) ?_
      refine J_ite (fun _ => J_none) (fun h3 => ?_)
      exact q_J.step (fun g => j_lrem rfl h3 (j_lstore [some (.long v0), none, some (.long v2), none, some (.int v4), some (.long (v0 - v0 / v2 * v2)), none] rfl rfl (Or.inr rfl) rfl (j_lload_n rfl rfl (j_lstore_n [some (.long v2), none, some (.long v2), none, some (.int v4), some (.long (v0 - v0 / v2 * v2)), none] rfl rfl (Or.inl rfl) rfl (j_lload rfl rfl (j_lstore_n [some (.long v2), none, some (.long (v0 - v0 / v2 * v2)), none, some (.int v4), some (.long (v0 - v0 / v2 * v2)), none] rfl rfl (Or.inr True.intro) rfl (j_iinc [some (.long v2), none, some (.long (v0 - v0 / v2 * v2)), none, some (.int (v4 + (1 : Int32))), some (.long (v0 - v0 / v2 * v2)), none] (v4 + (1 : Int32)) rfl rfl (by rw [k32_1]) (Or.inr True.intro) rfl (j_goto rfl (j_weak (l := [some (.long v2), none, some (.long (v0 - v0 / v2 * v2)), none, some (.int (v4 + (1 : Int32))), none, none]) (And.intro (Or.inr rfl) (And.intro (Or.inr rfl) (And.intro (Or.inr rfl) (And.intro (Or.inr rfl) (And.intro (Or.inr rfl) (And.intro (Or.inl rfl) (And.intro (Or.inr rfl) True.intro))))))) (g)))))))))) (l_Ra_commonDivisor_L3 hd hX n v2 (v0 - v0 / v2 * v2) (v4 + (1 : Int32)) σ)
    exact J_some (fun h => j_icmp_t rfl (cc_ge_t h1) (j_weak (l := [some (.long v0), none, none, none, none, none, none]) (And.intro (Or.inr rfl) (And.intro (Or.inr rfl) (And.intro (Or.inl rfl) (And.intro (Or.inr rfl) (And.intro (Or.inl rfl) (And.intro (Or.inr rfl) (And.intro (Or.inr rfl) True.intro))))))) (hX _ _ h)))

set_option maxRecDepth 100000 in
theorem b_Ra_commonDivisor {fo : Option Nat} {d : Nat} (hd : 1 ≤ d + 1) {o : q_O} {σ' : q_H} (v0 : Int64) (v2 : Int64) (σ : q_H) : q_J (fun (r : Int64) (σ1 : q_H) => o = .inl (some (.long r)) ∧ σ' = σ1) (f_Ra_commonDivisor v0 v2 σ) (q_G (q_rf fo) d m_Ra_commonDivisor o σ' 0 [some (.long v0), none, some (.long v2), none, none, none, none] [] σ) := by
  unfold f_Ra_commonDivisor
  refine J_sq (fun (t1 : Int64) (σ2 : q_H) => q_G (q_rf fo) d m_Ra_commonDivisor o σ' 32 [some (.long t1), none, none, none, none, none, none] [] σ2) (q_J.step (fun g => j_iconst (0 : Int32) rfl k32_0 (j_istore [some (.long v0), none, some (.long v2), none, some (.int (0 : Int32)), none, none] rfl rfl (Or.inr True.intro) rfl (g))) (l_Ra_commonDivisor_L3 hd (fun _ _ h => h) q_FU v0 v2 (0 : Int32) σ)) (fun t1 σ2 => ?_)
  exact J_some (fun h => j_lload_n rfl rfl (j_lret rfl rfl h))
theorem t_Ra_commonDivisor {fo : Option Nat} {d : Nat} (hd : 1 ≤ d) {v0 : Int64} {v2 : Int64} {σ σ1 : q_H} {r : Int64} (h : f_Ra_commonDivisor v0 v2 σ = some (r, σ1)) : q_Rel (q_rf fo) q_Ms d 25 [.long v0, .long v2] σ (.inl (some (.long r))) σ1 := by
  obtain ⟨d, rfl⟩ : ∃ d1, d = d1 + 1 := ⟨d - 1, by omega⟩
  exact q_Rel.of rfl rfl (b_Ra_commonDivisor hd _ _ σ _ _ h ⟨rfl, rfl⟩)

set_option maxRecDepth 100000 in
theorem b_Ra_isFartherThan {fo : Option Nat} {d : Nat} (hd : 1 ≤ d + 1) {o : q_O} {σ' : q_H} (v0 : Nat) (v1 : Nat) (σ : q_H) : q_J (fun (r : Int32) (σ1 : q_H) => o = .inl (some (.int r)) ∧ σ' = σ1) (f_Ra_isFartherThan v0 v1 σ) (q_G (q_rf fo) d m_Ra_isFartherThan o σ' 0 [some (.ref v0), some (.ref v1)] [] σ) := by
  unfold f_Ra_isFartherThan
  refine J_bind fun x1 hx1 => ?_
  refine J_bind fun x2 hx2 => ?_
  refine J_bind fun x3 hx3 => ?_
  refine J_bind fun x4 hx4 => ?_
  refine q_J.step (fun g => j_aload_n rfl rfl (j_gfl rfl hx1 (j_labs rfl rfl (j_aload_n rfl rfl (j_gfl rfl hx2 (j_lmul rfl (j_aload_n rfl rfl (j_gfl rfl hx3 (j_labs rfl rfl (j_aload_n rfl rfl (j_gfl rfl hx4 (j_lmul rfl (j_lcmp rfl (g)))))))))))))) ?_
  refine J_ite (fun h5 => ?_) (fun h5 => ?_)
  · exact J_some (fun h => j_if_f rfl (lc_le_f h5) (j_iconst (1 : Int32) rfl k32_1 (j_goto rfl (j_iret rfl (q_zr (Or.inr rfl)) h))))
  exact J_some (fun h => j_if_t rfl (lc_le_t h5) (j_iconst (0 : Int32) rfl k32_0 (j_iret rfl (q_zr (Or.inl rfl)) h)))
theorem t_Ra_isFartherThan {fo : Option Nat} {d : Nat} (hd : 1 ≤ d) {v0 : Nat} {v1 : Nat} {σ σ1 : q_H} {r : Int32} (h : f_Ra_isFartherThan v0 v1 σ = some (r, σ1)) : q_Rel (q_rf fo) q_Ms d 27 [.ref v0, .ref v1] σ (.inl (some (.int r))) σ1 := by
  obtain ⟨d, rfl⟩ : ∃ d1, d = d1 + 1 := ⟨d - 1, by omega⟩
  exact q_Rel.of rfl rfl (b_Ra_isFartherThan hd _ _ σ _ _ h ⟨rfl, rfl⟩)

set_option maxRecDepth 100000 in
theorem b_Ty_init {fo : Option Nat} {d : Nat} (hd : 1 ≤ d + 1) {o : q_O} {σ' : q_H} (v0 : Nat) (σ : q_H) : q_J (fun (r : Unit) (σ1 : q_H) => o = .inl none ∧ σ' = σ1) (f_Ty_init v0 σ) (q_G (q_rf fo) d m_Ty_init o σ' 0 [some (.ref v0)] [] σ) := by
  unfold f_Ty_init
  refine J_ma fun σ1 a2 hσ1 ha2 => ?_
  refine J_bind fun σ3 hσ3 => ?_
  exact J_some (fun h => j_aload_n rfl rfl (j_obj rfl rfl (j_aload_n rfl rfl (j_bipush (15 : Int32) rfl kb_15 (j_newk 15 (.int 0) rfl rfl rfl (by decide) (by decide) hσ1 ha2 (j_putf rfl rfl rfl rfl hσ3 (j_vret rfl rfl h)))))))
theorem t_Ty_init {fo : Option Nat} {d : Nat} (hd : 1 ≤ d) {v0 : Nat} {σ σ1 : q_H} {r : Unit} (h : f_Ty_init v0 σ = some (r, σ1)) : q_Rel (q_rf fo) q_Ms d 28 [.ref v0] σ (.inl none) σ1 := by
  obtain ⟨d, rfl⟩ : ∃ d1, d = d1 + 1 := ⟨d - 1, by omega⟩
  exact q_Rel.of rfl rfl (b_Ty_init hd _ σ _ _ h ⟨rfl, rfl⟩)

set_option maxRecDepth 100000 in
theorem b_Ty_put {fo : Option Nat} {d : Nat} (hd : 1 ≤ d + 1) {o : q_O} {σ' : q_H} (v0 : Nat) (v1 : Int32) (v2 : Int32) (σ : q_H) : q_J (fun (r : Unit) (σ1 : q_H) => o = .inl none ∧ σ' = σ1) (f_Ty_put v0 v1 v2 σ) (q_G (q_rf fo) d m_Ty_put o σ' 0 [some (.ref v0), some (.int v1), some (.int v2)] [] σ) := by
  unfold f_Ty_put
  refine J_bind fun x1 hx1 => ?_
  refine J_bind fun x2 hx2 => ?_
  refine J_bind fun σ3 hσ3 => ?_
  exact J_some (fun h => j_aload_n rfl rfl (j_gfr rfl hx1 (j_iload_n rfl rfl (j_iconst (3 : Int32) rfl k32_3 (j_imul rfl (j_iload_n rfl rfl (j_iadd rfl (j_dup2 rfl rfl rfl (j_ial rfl hx2 (j_iconst (1 : Int32) rfl k32_1 (j_iadd rfl (j_ias rfl hσ3 (j_vret rfl rfl h)))))))))))))
theorem t_Ty_put {fo : Option Nat} {d : Nat} (hd : 1 ≤ d) {v0 : Nat} {v1 : Int32} {v2 : Int32} {σ σ1 : q_H} {r : Unit} (h : f_Ty_put v0 v1 v2 σ = some (r, σ1)) : q_Rel (q_rf fo) q_Ms d 29 [.ref v0, .int v1, .int v2] σ (.inl none) σ1 := by
  obtain ⟨d, rfl⟩ : ∃ d1, d = d1 + 1 := ⟨d - 1, by omega⟩
  exact q_Rel.of rfl rfl (b_Ty_put hd _ _ _ σ _ _ h ⟨rfl, rfl⟩)

set_option maxRecDepth 100000 in
theorem l_Ty_add_L2 {fo : Option Nat} {d : Nat} (hd : 1 ≤ d + 1) {o : q_O} {σ' : q_H} {E : (Unit) → q_H → Prop} (v0 : Nat) (v1 : Nat) (hX : ∀ (t : Unit) σ1, E (t) σ1 → q_G (q_rf fo) d m_Ty_add o σ' 32 [none, none, none] [] σ1)  : ∀ (n : Nat) (v2 : Int32) (σ : q_H), q_J E (f_Ty_add_L2 v0 v1 n v2 σ) (q_G (q_rf fo) d m_Ty_add o σ' 2 [some (.ref v0), some (.ref v1), some (.int v2)] [] σ)
  | 0, v2, σ => J_none
  | n + 1, v2, σ => by
    unfold f_Ty_add_L2
    refine J_bind fun x1 hx1 => ?_
    refine J_bind fun x2 hx2 => ?_
    refine q_J.step (fun g => j_iload_n rfl rfl (j_aload_n rfl rfl (j_gfr rfl hx1 (j_alen rfl hx2 (g))))) ?_
    refine J_ite (fun h3 => ?_) (fun h3 => ?_)
    · refine J_bind fun x4 hx4 => ?_
      refine J_bind fun x5 hx5 => ?_
      refine J_bind fun x6 hx6 => ?_
      refine J_bind fun x7 hx7 => ?_
      refine J_bind fun σ8 hσ8 => ?_
      exact q_J.step (fun g => j_icmp_f rfl (cc_ge_f h3) (j_aload_n rfl rfl (j_gfr rfl hx4 (j_iload_n rfl rfl (j_dup2 rfl rfl rfl (j_ial rfl hx5 (j_aload_n rfl rfl (j_gfr rfl hx6 (j_iload_n rfl rfl (j_ial rfl hx7 (j_iadd rfl (j_ias rfl hσ8 (j_iinc [some (.ref v0), some (.ref v1), some (.int (v2 + (1 : Int32)))] (v2 + (1 : Int32)) rfl rfl (by rw [k32_1]) (Or.inr rfl) rfl (j_goto rfl (g))))))))))))))) (l_Ty_add_L2 hd v0 v1 hX n (v2 + (1 : Int32)) σ8)
    exact J_some (fun h => j_icmp_t rfl (cc_ge_t h3) (j_weak (l := [none, none, none]) (And.intro (Or.inl rfl) (And.intro (Or.inl rfl) (And.intro (Or.inl rfl) True.intro))) (hX _ _ h)))

set_option maxRecDepth 100000 in
theorem b_Ty_add {fo : Option Nat} {d : Nat} (hd : 1 ≤ d + 1) {o : q_O} {σ' : q_H} (v0 : Nat) (v1 : Nat) (σ : q_H) : q_J (fun (r : Unit) (σ1 : q_H) => o = .inl none ∧ σ' = σ1) (f_Ty_add v0 v1 σ) (q_G (q_rf fo) d m_Ty_add o σ' 0 [some (.ref v0), some (.ref v1), none] [] σ) := by
  unfold f_Ty_add
  refine J_sq (fun (t1 : Unit) (σ2 : q_H) => q_G (q_rf fo) d m_Ty_add o σ' 32 [none, none, none] [] σ2) (q_J.step (fun g => j_iconst (0 : Int32) rfl k32_0 (j_istore_n [some (.ref v0), some (.ref v1), some (.int (0 : Int32))] rfl rfl (Or.inr rfl) rfl (g))) (l_Ty_add_L2 hd v0 v1 (fun _ _ h => h) q_FU (0 : Int32) σ)) (fun t1 σ2 => ?_)
  exact J_some (fun h => j_vret rfl rfl h)
theorem t_Ty_add {fo : Option Nat} {d : Nat} (hd : 1 ≤ d) {v0 : Nat} {v1 : Nat} {σ σ1 : q_H} {r : Unit} (h : f_Ty_add v0 v1 σ = some (r, σ1)) : q_Rel (q_rf fo) q_Ms d 30 [.ref v0, .ref v1] σ (.inl none) σ1 := by
  obtain ⟨d, rfl⟩ : ∃ d1, d = d1 + 1 := ⟨d - 1, by omega⟩
  exact q_Rel.of rfl rfl (b_Ty_add hd _ _ σ _ _ h ⟨rfl, rfl⟩)

set_option maxRecDepth 100000 in
theorem l_Ty_ofSort_L5 {fo : Option Nat} {d : Nat} (hd : 1 ≤ d + 1) {o : q_O} {σ' : q_H} {E : (Int32) → q_H → Prop} (v0 : Nat) (v1 : Int32) (v2 : Int32) (hX : ∀ (t : Int32) σ1, E (t) σ1 → q_G (q_rf fo) d m_Ty_ofSort o σ' 33 [none, none, none, some (.int t), none] [] σ1)  : ∀ (n : Nat) (v3 : Int32) (v4 : Int32) (σ : q_H), q_J E (f_Ty_ofSort_L5 v0 v1 v2 n v3 v4 σ) (q_G (q_rf fo) d m_Ty_ofSort o σ' 5 [some (.ref v0), some (.int v1), some (.int v2), some (.int v3), some (.int v4)] [] σ)
  | 0, v3, v4, σ => J_none
  | n + 1, v3, v4, σ => by
    unfold f_Ty_ofSort_L5
    refine q_J.step (fun g => j_iload rfl rfl (j_iconst (2 : Int32) rfl k32_2 (j_iload_n rfl rfl (j_isub rfl (g))))) ?_
    refine J_ite (fun h1 => ?_) (fun h1 => ?_)
    · exact J_some (fun h => j_icmp_t rfl (cc_gt_t h1) (j_weak (l := [none, none, none, some (.int v3), none]) (And.intro (Or.inl rfl) (And.intro (Or.inl rfl) (And.intro (Or.inl rfl) (And.intro (Or.inr rfl) (And.intro (Or.inl rfl) True.intro))))) (hX _ _ h)))
    refine J_bind fun x2 hx2 => ?_
    refine J_bind fun x3 hx3 => ?_
    exact q_J.step (fun g => j_icmp_f rfl (cc_gt_f h1) (j_iload_n rfl rfl (j_aload_n rfl rfl (j_gfr rfl hx2 (j_iload_n rfl rfl (j_iconst (3 : Int32) rfl k32_3 (j_imul rfl (j_iload rfl rfl (j_iadd rfl (j_ial rfl hx3 (j_iadd rfl (j_istore_n [some (.ref v0), some (.int v1), some (.int v2), some (.int (v3 + x3)), some (.int v4)] rfl rfl (Or.inr rfl) rfl (j_iinc [some (.ref v0), some (.int v1), some (.int v2), some (.int (v3 + x3)), some (.int (v4 + (1 : Int32)))] (v4 + (1 : Int32)) rfl rfl (by rw [k32_1]) (Or.inr rfl) rfl (j_goto rfl (g))))))))))))))) (l_Ty_ofSort_L5 hd v0 v1 v2 hX n (v3 + x3) (v4 + (1 : Int32)) σ)

set_option maxRecDepth 100000 in
theorem b_Ty_ofSort {fo : Option Nat} {d : Nat} (hd : 1 ≤ d + 1) {o : q_O} {σ' : q_H} (v0 : Nat) (v1 : Int32) (v2 : Int32) (σ : q_H) : q_J (fun (r : Int32) (σ1 : q_H) => o = .inl (some (.int r)) ∧ σ' = σ1) (f_Ty_ofSort v0 v1 v2 σ) (q_G (q_rf fo) d m_Ty_ofSort o σ' 0 [some (.ref v0), some (.int v1), some (.int v2), none, none] [] σ) := by
  unfold f_Ty_ofSort
  refine J_sq (fun (t1 : Int32) (σ2 : q_H) => q_G (q_rf fo) d m_Ty_ofSort o σ' 33 [none, none, none, some (.int t1), none] [] σ2) (q_J.step (fun g => j_iconst (0 : Int32) rfl k32_0 (j_istore_n [some (.ref v0), some (.int v1), some (.int v2), some (.int (0 : Int32)), none] rfl rfl (Or.inr rfl) rfl (j_iconst (0 : Int32) rfl k32_0 (j_istore [some (.ref v0), some (.int v1), some (.int v2), some (.int (0 : Int32)), some (.int (0 : Int32))] rfl rfl (Or.inr rfl) rfl (g))))) (l_Ty_ofSort_L5 hd v0 v1 v2 (fun _ _ h => h) q_FU (0 : Int32) (0 : Int32) σ)) (fun t1 σ2 => ?_)
  exact J_some (fun h => j_iload_n rfl rfl (j_iret rfl rfl h))
theorem t_Ty_ofSort {fo : Option Nat} {d : Nat} (hd : 1 ≤ d) {v0 : Nat} {v1 : Int32} {v2 : Int32} {σ σ1 : q_H} {r : Int32} (h : f_Ty_ofSort v0 v1 v2 σ = some (r, σ1)) : q_Rel (q_rf fo) q_Ms d 32 [.ref v0, .int v1, .int v2] σ (.inl (some (.int r))) σ1 := by
  obtain ⟨d, rfl⟩ : ∃ d1, d = d1 + 1 := ⟨d - 1, by omega⟩
  exact q_Rel.of rfl rfl (b_Ty_ofSort hd _ _ _ σ _ _ h ⟨rfl, rfl⟩)

set_option maxRecDepth 100000 in
theorem l_Li_init_L31 {fo : Option Nat} {d : Nat} (hd : 1 ≤ d + 1) {o : q_O} {σ' : q_H} {E : (Unit) → q_H → Prop} (v0 : Nat) (v1 : Int32) (hX : ∀ (t : Unit) σ1, E (t) σ1 → q_G (q_rf fo) d m_Li_init o σ' 54 [some (.ref v0), some (.int v1), none] [] σ1)  : ∀ (n : Nat) (v2 : Int32) (σ : q_H), q_J E (f_Li_init_L31 v0 v1 n v2 σ) (q_G (q_rf fo) d m_Li_init o σ' 31 [some (.ref v0), some (.int v1), some (.int v2)] [] σ)
  | 0, v2, σ => J_none
  | n + 1, v2, σ => by
    unfold f_Li_init_L31
    refine q_J.step (fun g => j_iload_n rfl rfl (j_bipush (17 : Int32) rfl kb_17 (g))) ?_
    refine J_ite (fun h1 => ?_) (fun h1 => ?_)
    · refine J_bind fun x2 hx2 => ?_
      refine J_bind fun x3 hx3 => ?_
      refine J_bind fun σ4 hσ4 => ?_
      exact q_J.step (fun g => j_icmp_f rfl (cc_ge_f h1) (j_aload_n rfl rfl (j_gfr rfl hx2 (j_iload_n rfl rfl (j_aal rfl rfl hx3 (j_iload_n rfl rfl (j_sipush (1000 : Int32) rfl ks_1000 (j_ias rfl hσ4 (j_iinc [some (.ref v0), some (.int v1), some (.int (v2 + (1 : Int32)))] (v2 + (1 : Int32)) rfl rfl (by rw [k32_1]) (Or.inr rfl) rfl (j_goto rfl (g))))))))))) (l_Li_init_L31 hd v0 v1 hX n (v2 + (1 : Int32)) σ4)
    exact J_some (fun h => j_icmp_t rfl (cc_ge_t h1) (j_weak (l := [some (.ref v0), some (.int v1), none]) (And.intro (Or.inr rfl) (And.intro (Or.inr rfl) (And.intro (Or.inl rfl) True.intro))) (hX _ _ h)))

set_option maxRecDepth 100000 in
theorem l_Li_init_L24 {fo : Option Nat} {d : Nat} (hd : 1 ≤ d + 1) {o : q_O} {σ' : q_H} {E : (Unit) → q_H → Prop} (v0 : Nat) (hX : ∀ (t : Unit) σ1, E (t) σ1 → q_G (q_rf fo) d m_Li_init o σ' 60 [none, none, none] [] σ1)  : ∀ (n : Nat) (v1 : Int32) (σ : q_H), q_J E (f_Li_init_L24 v0 n v1 σ) (q_G (q_rf fo) d m_Li_init o σ' 24 [some (.ref v0), some (.int v1), none] [] σ)
  | 0, v1, σ => J_none
  | n + 1, v1, σ => by
    unfold f_Li_init_L24
    refine q_J.step (fun g => j_iload_n rfl rfl (j_iconst (4 : Int32) rfl k32_4 (g))) ?_
    refine J_ite (fun h1 => ?_) (fun h1 => ?_)
    · refine J_sq (fun (t2 : Unit) (σ3 : q_H) => q_G (q_rf fo) d m_Li_init o σ' 54 [some (.ref v0), some (.int v1), none] [] σ3) (q_J.step (fun g => j_icmp_f rfl (cc_ge_f h1) (j_iconst (0 : Int32) rfl k32_0 (j_istore_n [some (.ref v0), some (.int v1), some (.int (0 : Int32))] rfl rfl (Or.inr rfl) rfl (g)))) (l_Li_init_L31 hd v0 v1 (fun _ _ h => h) q_FU (0 : Int32) σ)) (fun t2 σ3 => ?_)
      exact q_J.step (fun g => j_iinc [some (.ref v0), some (.int (v1 + (1 : Int32))), none] (v1 + (1 : Int32)) rfl rfl (by rw [k32_1]) (Or.inr rfl) rfl (j_goto rfl (g))) (l_Li_init_L24 hd v0 hX n (v1 + (1 : Int32)) σ3)
    exact J_some (fun h => j_icmp_t rfl (cc_ge_t h1) (j_weak (l := [none, none, none]) (And.intro (Or.inl rfl) (And.intro (Or.inl rfl) (And.intro (Or.inr rfl) True.intro))) (hX _ _ h)))

set_option maxRecDepth 100000 in
theorem b_Li_init {fo : Option Nat} {d : Nat} (hd : 1 ≤ d + 1) {o : q_O} {σ' : q_H} (v0 : Nat) (σ : q_H) : q_J (fun (r : Unit) (σ1 : q_H) => o = .inl none ∧ σ' = σ1) (f_Li_init v0 σ) (q_G (q_rf fo) d m_Li_init o σ' 0 [some (.ref v0), none, none] [] σ) := by
  unfold f_Li_init
  refine J_ma5 fun σ1 a2 hσ1 ha2 => ?_
  refine J_bind fun σ3 hσ3 => ?_
  refine J_ma fun σ4 a5 hσ4 ha5 => ?_
  refine J_bind fun σ6 hσ6 => ?_
  refine J_sq (fun (t7 : Unit) (σ8 : q_H) => q_G (q_rf fo) d m_Li_init o σ' 60 [none, none, none] [] σ8) (q_J.step (fun g => j_aload_n rfl rfl (j_obj rfl rfl (j_aload_n rfl rfl (j_iconst (4 : Int32) rfl k32_4 (j_bipush (17 : Int32) rfl kb_17 (j_mnak rfl hσ1 ha2 (j_putf rfl rfl rfl rfl hσ3 (j_aload_n rfl rfl (j_iconst (4 : Int32) rfl k32_4 (j_newk 4 (.int 0) rfl rfl rfl (by decide) (by decide) hσ4 ha5 (j_putf rfl rfl rfl rfl hσ6 (j_iconst (0 : Int32) rfl k32_0 (j_istore_n [some (.ref v0), some (.int (0 : Int32)), none] rfl rfl (Or.inr rfl) rfl (g)))))))))))))) (l_Li_init_L24 hd v0 (fun _ _ h => h) q_FU (0 : Int32) σ6)) (fun t7 σ8 => ?_)
  exact J_some (fun h => j_vret rfl rfl h)
theorem t_Li_init {fo : Option Nat} {d : Nat} (hd : 1 ≤ d) {v0 : Nat} {σ σ1 : q_H} {r : Unit} (h : f_Li_init v0 σ = some (r, σ1)) : q_Rel (q_rf fo) q_Ms d 34 [.ref v0] σ (.inl none) σ1 := by
  obtain ⟨d, rfl⟩ : ∃ d1, d = d1 + 1 := ⟨d - 1, by omega⟩
  exact q_Rel.of rfl rfl (b_Li_init hd _ σ _ _ h ⟨rfl, rfl⟩)

set_option maxRecDepth 100000 in
theorem b_Li_fifthsAt {fo : Option Nat} {d : Nat} (hd : 1 ≤ d + 1) {o : q_O} {σ' : q_H} (v0 : Nat) (v1 : Int32) (v2 : Int32) (σ : q_H) : q_J (fun (r : Int32) (σ1 : q_H) => o = .inl (some (.int r)) ∧ σ' = σ1) (f_Li_fifthsAt v0 v1 v2 σ) (q_G (q_rf fo) d m_Li_fifthsAt o σ' 0 [some (.ref v0), some (.int v1), some (.int v2), none] [] σ) := by
  unfold f_Li_fifthsAt
  refine q_J.step (fun g => j_iload_n rfl rfl (j_iconst (5 : Int32) rfl k32_5 (j_idiv rfl (by decide) (j_istore_n [some (.ref v0), some (.int v1), some (.int v2), some (.int (v2 / (5 : Int32)))] rfl rfl (Or.inr rfl) rfl (j_iload_n rfl rfl (j_bipush (16 : Int32) rfl kb_16 (g))))))) ?_
  refine J_ite (fun h1 => ?_) (fun h1 => ?_)
  · refine J_bind fun x2 hx2 => ?_
    refine J_bind fun x3 hx3 => ?_
    refine J_bind fun x4 hx4 => ?_
    refine J_bind fun x5 hx5 => ?_
    refine J_bind fun x6 hx6 => ?_
    refine J_bind fun x7 hx7 => ?_
    exact J_some (fun h => j_icmp_t rfl (cc_lt_t h1) (j_aload_n rfl rfl (j_gfr rfl hx2 (j_iload_n rfl rfl (j_aal rfl rfl hx3 (j_iload_n rfl rfl (j_ial rfl hx4 (j_iconst (5 : Int32) rfl k32_5 (j_iload_n rfl rfl (j_iconst (5 : Int32) rfl k32_5 (j_irem rfl (by decide) (j_isub rfl (j_imul rfl (j_aload_n rfl rfl (j_gfr rfl hx5 (j_iload_n rfl rfl (j_aal rfl rfl hx6 (j_iload_n rfl rfl (j_iconst (1 : Int32) rfl k32_1 (j_iadd rfl (j_ial rfl hx7 (j_iload_n rfl rfl (j_iconst (5 : Int32) rfl k32_5 (j_irem rfl (by decide) (j_imul rfl (j_iadd rfl (j_iret rfl rfl h)))))))))))))))))))))))))))
  refine J_bind fun x8 hx8 => ?_
  refine J_bind fun x9 hx9 => ?_
  refine J_bind fun x10 hx10 => ?_
  exact J_some (fun h => j_icmp_f rfl (cc_lt_f h1) (j_aload_n rfl rfl (j_gfr rfl hx8 (j_iload_n rfl rfl (j_aal rfl rfl hx9 (j_bipush (16 : Int32) rfl kb_16 (j_ial rfl hx10 (j_iconst (5 : Int32) rfl k32_5 (j_imul rfl (j_iret rfl rfl h))))))))))
theorem t_Li_fifthsAt {fo : Option Nat} {d : Nat} (hd : 1 ≤ d) {v0 : Nat} {v1 : Int32} {v2 : Int32} {σ σ1 : q_H} {r : Int32} (h : f_Li_fifthsAt v0 v1 v2 σ = some (r, σ1)) : q_Rel (q_rf fo) q_Ms d 35 [.ref v0, .int v1, .int v2] σ (.inl (some (.int r))) σ1 := by
  obtain ⟨d, rfl⟩ : ∃ d1, d = d1 + 1 := ⟨d - 1, by omega⟩
  exact q_Rel.of rfl rfl (b_Li_fifthsAt hd _ _ _ σ _ _ h ⟨rfl, rfl⟩)

set_option maxRecDepth 100000 in
theorem b_Li_living {fo : Option Nat} {d : Nat} (hd : 1 ≤ d + 1) {o : q_O} {σ' : q_H} (v0 : Nat) (v1 : Int32) (v2 : Int32) (σ : q_H) : q_J (fun (r : Int32) (σ1 : q_H) => o = .inl (some (.int r)) ∧ σ' = σ1) (f_Li_living v0 v1 v2 σ) (q_G (q_rf fo) d m_Li_living o σ' 0 [some (.ref v0), some (.int v1), some (.int v2)] [] σ) := by
  unfold f_Li_living
  refine q_J.step (fun g => j_iload_n rfl rfl (j_bipush (16 : Int32) rfl kb_16 (g))) ?_
  refine J_ite (fun h1 => ?_) (fun h1 => ?_)
  · refine J_bind fun x2 hx2 => ?_
    refine J_bind fun x3 hx3 => ?_
    refine J_bind fun x4 hx4 => ?_
    refine J_bind fun x5 hx5 => ?_
    refine J_bind fun x6 hx6 => ?_
    refine J_bind fun x7 hx7 => ?_
    exact J_some (fun h => j_icmp_f rfl (cc_ge_f h1) (j_aload_n rfl rfl (j_gfr rfl hx2 (j_iload_n rfl rfl (j_aal rfl rfl hx3 (j_iload_n rfl rfl (j_ial rfl hx4 (j_aload_n rfl rfl (j_gfr rfl hx5 (j_iload_n rfl rfl (j_aal rfl rfl hx6 (j_iload_n rfl rfl (j_iconst (1 : Int32) rfl k32_1 (j_iadd rfl (j_ial rfl hx7 (j_iadd rfl (j_goto rfl (j_iret rfl rfl h))))))))))))))))))
  refine J_bind fun x8 hx8 => ?_
  refine J_bind fun x9 hx9 => ?_
  refine J_bind fun x10 hx10 => ?_
  exact J_some (fun h => j_icmp_t rfl (cc_ge_t h1) (j_aload_n rfl rfl (j_gfr rfl hx8 (j_iload_n rfl rfl (j_aal rfl rfl hx9 (j_bipush (16 : Int32) rfl kb_16 (j_ial rfl hx10 (j_iret rfl rfl h))))))))
theorem t_Li_living {fo : Option Nat} {d : Nat} (hd : 1 ≤ d) {v0 : Nat} {v1 : Int32} {v2 : Int32} {σ σ1 : q_H} {r : Int32} (h : f_Li_living v0 v1 v2 σ = some (r, σ1)) : q_Rel (q_rf fo) q_Ms d 38 [.ref v0, .int v1, .int v2] σ (.inl (some (.int r))) σ1 := by
  obtain ⟨d, rfl⟩ : ∃ d1, d = d1 + 1 := ⟨d - 1, by omega⟩
  exact q_Rel.of rfl rfl (b_Li_living hd _ _ _ σ _ _ h ⟨rfl, rfl⟩)

set_option maxRecDepth 100000 in
theorem b_Li_addGap {fo : Option Nat} {d : Nat} (hd : 1 ≤ d + 1) {o : q_O} {σ' : q_H} (v0 : Nat) (v1 : Int32) (σ : q_H) : q_J (fun (r : Int32) (σ1 : q_H) => o = .inl (some (.int r)) ∧ σ' = σ1) (f_Li_addGap v0 v1 σ) (q_G (q_rf fo) d m_Li_addGap o σ' 0 [some (.ref v0), some (.int v1)] [] σ) := by
  unfold f_Li_addGap
  refine J_bind fun x1 hx1 => ?_
  refine q_J.step (fun g => j_aload_n rfl rfl (j_gfi rfl hx1 (j_iconst (4 : Int32) rfl k32_4 (g)))) ?_
  refine J_ite (fun h2 => ?_) (fun h2 => ?_)
  · refine J_bind fun x3 hx3 => ?_
    refine J_bind fun x4 hx4 => ?_
    refine J_bind fun σ5 hσ5 => ?_
    refine J_bind fun x6 hx6 => ?_
    refine J_bind fun σ7 hσ7 => ?_
    exact J_some (fun h => j_icmp_t rfl (cc_lt_t h2) (j_aload_n rfl rfl (j_gfr rfl hx3 (j_aload_n rfl rfl (j_gfi rfl hx4 (j_iload_n rfl rfl (j_ias rfl hσ5 (j_aload_n rfl rfl (j_dup rfl rfl (j_gfi rfl hx6 (j_iconst (1 : Int32) rfl k32_1 (j_iadd rfl (j_putf rfl rfl rfl rfl hσ7 (j_iconst (1 : Int32) rfl k32_1 (j_iret rfl (q_zr (Or.inr rfl)) h)))))))))))))))
  exact J_some (fun h => j_icmp_f rfl (cc_lt_f h2) (j_iconst (0 : Int32) rfl k32_0 (j_iret rfl (q_zr (Or.inl rfl)) h)))
theorem t_Li_addGap {fo : Option Nat} {d : Nat} (hd : 1 ≤ d) {v0 : Nat} {v1 : Int32} {σ σ1 : q_H} {r : Int32} (h : f_Li_addGap v0 v1 σ = some (r, σ1)) : q_Rel (q_rf fo) q_Ms d 39 [.ref v0, .int v1] σ (.inl (some (.int r))) σ1 := by
  obtain ⟨d, rfl⟩ : ∃ d1, d = d1 + 1 := ⟨d - 1, by omega⟩
  exact q_Rel.of rfl rfl (b_Li_addGap hd _ _ σ _ _ h ⟨rfl, rfl⟩)

set_option maxRecDepth 100000 in
theorem b_Wo_init {fo : Option Nat} {d : Nat} (hd : 1 ≤ d + 1) {o : q_O} {σ' : q_H} (v0 : Nat) (σ : q_H) : q_J (fun (r : Unit) (σ1 : q_H) => o = .inl none ∧ σ' = σ1) (f_Wo_init v0 σ) (q_G (q_rf fo) d m_Wo_init o σ' 0 [some (.ref v0)] [] σ) := by
  unfold f_Wo_init
  refine J_ma fun σ1 a2 hσ1 ha2 => ?_
  refine J_bind fun σ3 hσ3 => ?_
  refine J_ma fun σ4 a5 hσ4 ha5 => ?_
  refine J_bind fun σ6 hσ6 => ?_
  refine J_ma fun σ7 a8 hσ7 ha8 => ?_
  refine J_bind fun σ9 hσ9 => ?_
  refine J_ma fun σ10 a11 hσ10 ha11 => ?_
  refine J_bind fun σ12 hσ12 => ?_
  exact J_some (fun h => j_aload_n rfl rfl (j_obj rfl rfl (j_aload_n rfl rfl (j_bipush (6 : Int32) rfl kb_6 (j_newk 6 (.int 0) rfl rfl rfl (by decide) (by decide) hσ1 ha2 (j_putf rfl rfl rfl rfl hσ3 (j_aload_n rfl rfl (j_bipush (6 : Int32) rfl kb_6 (j_newk 6 (.int 0) rfl rfl rfl (by decide) (by decide) hσ4 ha5 (j_putf rfl rfl rfl rfl hσ6 (j_aload_n rfl rfl (j_bipush (6 : Int32) rfl kb_6 (j_newk 6 (.int 0) rfl rfl rfl (by decide) (by decide) hσ7 ha8 (j_putf rfl rfl rfl rfl hσ9 (j_aload_n rfl rfl (j_bipush (6 : Int32) rfl kb_6 (j_newk 6 (.int 0) rfl rfl rfl (by decide) (by decide) hσ10 ha11 (j_putf rfl rfl rfl rfl hσ12 (j_vret rfl rfl h)))))))))))))))))))
theorem t_Wo_init {fo : Option Nat} {d : Nat} (hd : 1 ≤ d) {v0 : Nat} {σ σ1 : q_H} {r : Unit} (h : f_Wo_init v0 σ = some (r, σ1)) : q_Rel (q_rf fo) q_Ms d 41 [.ref v0] σ (.inl none) σ1 := by
  obtain ⟨d, rfl⟩ : ∃ d1, d = d1 + 1 := ⟨d - 1, by omega⟩
  exact q_Rel.of rfl rfl (b_Wo_init hd _ σ _ _ h ⟨rfl, rfl⟩)

set_option maxRecDepth 100000 in
theorem b_Wo_draw {fo : Option Nat} {d : Nat} (hd : 1 ≤ d + 1) {o : q_O} {σ' : q_H} (v0 : Nat) (v1 : Int32) (σ : q_H) : q_J (fun (r : Int32) (σ1 : q_H) => o = .inl (some (.int r)) ∧ σ' = σ1) (f_Wo_draw v0 v1 σ) (q_G (q_rf fo) d m_Wo_draw o σ' 0 [some (.ref v0), some (.int v1)] [] σ) := by
  unfold f_Wo_draw
  refine J_bind fun x1 hx1 => ?_
  refine J_bind fun σ2 hσ2 => ?_
  refine q_J.step (fun g => j_aload_n rfl rfl (j_aload_n rfl rfl (j_gfl rfl hx1 (j_ldc2 (1103515245 : Int64) rfl kw_1103515245 (j_lmul rfl (j_ldc2 (12345 : Int64) rfl kw_12345 (j_ladd rfl (j_ldc2 (2147483648 : Int64) rfl kw_2147483648 (j_lrem rfl (by decide) (j_putf rfl rfl rfl rfl hσ2 (j_iload_n rfl rfl (g)))))))))))) ?_
  refine J_ite (fun h3 => ?_) (fun h3 => ?_)
  · refine J_bind fun x4 hx4 => ?_
    refine q_J.step (fun g => j_if_t rfl (cc_gt_t h3) (j_aload_n rfl rfl (j_gfl rfl hx4 (j_ldc2 (65536 : Int64) rfl kw_65536 (j_ldiv rfl (by decide) (j_iload_n rfl rfl (j_i2l rfl (g)))))))) ?_
    refine J_ite (fun _ => J_none) (fun h5 => ?_)
    exact J_some (fun h => j_lrem rfl h5 (j_l2i rfl (j_iret rfl rfl h)))
  exact J_some (fun h => j_if_f rfl (cc_gt_f h3) (j_iconst (0 : Int32) rfl k32_0 (j_goto rfl (j_iret rfl rfl h))))
theorem t_Wo_draw {fo : Option Nat} {d : Nat} (hd : 1 ≤ d) {v0 : Nat} {v1 : Int32} {σ σ1 : q_H} {r : Int32} (h : f_Wo_draw v0 v1 σ = some (r, σ1)) : q_Rel (q_rf fo) q_Ms d 44 [.ref v0, .int v1] σ (.inl (some (.int r))) σ1 := by
  obtain ⟨d, rfl⟩ : ∃ d1, d = d1 + 1 := ⟨d - 1, by omega⟩
  exact q_Rel.of rfl rfl (b_Wo_draw hd _ _ σ _ _ h ⟨rfl, rfl⟩)

set_option maxRecDepth 100000 in
theorem l_Wo_oldestSisterFor_L2 {fo : Option Nat} {d : Nat} (hd : 1 ≤ d + 1) {o : q_O} {σ' : q_H} {E : (Int32 ⊕ Unit) → q_H → Prop} (v0 : Nat) (v1 : Int32) (v2 : Int32) (hR : ∀ r σ1, E (.inl r) σ1 → o = .inl (some (.int r)) ∧ σ' = σ1) (hX : ∀ (t : Unit) σ1, E (.inr t) σ1 → q_G (q_rf fo) d m_Wo_oldestSisterFor o σ' 82 [none, none, none, none] [] σ1)  : ∀ (n : Nat) (v3 : Int32) (σ : q_H), q_J E (f_Wo_oldestSisterFor_L2 v0 v1 v2 n v3 σ) (q_G (q_rf fo) d m_Wo_oldestSisterFor o σ' 2 [some (.ref v0), some (.int v1), some (.int v2), some (.int v3)] [] σ)
  | 0, v3, σ => J_none
  | n + 1, v3, σ => by
    unfold f_Wo_oldestSisterFor_L2
    refine J_bind fun x1 hx1 => ?_
    refine q_J.step (fun g => j_iload_n rfl rfl (j_aload_n rfl rfl (j_gfi rfl hx1 (g)))) ?_
    refine J_ite (fun h2 => ?_) (fun h2 => ?_)
    · refine q_J.step (fun g => j_icmp_f rfl (cc_ge_f h2) (j_iload_n rfl rfl (j_bipush (6 : Int32) rfl kb_6 (g)))) ?_
      refine J_ite (fun h3 => ?_) (fun h3 => ?_)
      · refine J_bind fun x4 hx4 => ?_
        refine J_bind fun x5 hx5 => ?_
        refine q_J.step (fun g => j_icmp_f rfl (cc_ge_f h3) (j_aload_n rfl rfl (j_gfr rfl hx4 (j_iload_n rfl rfl (j_bal rfl rfl hx5 (g)))))) ?_
        refine J_ite (fun h6 => ?_) (fun h6 => ?_)
        · exact q_J.step (fun g => j_if_t rfl (cc_eq_t h6) (j_iinc [some (.ref v0), some (.int v1), some (.int v2), some (.int (v3 + (1 : Int32)))] (v3 + (1 : Int32)) rfl rfl (by rw [k32_1]) (Or.inr rfl) rfl (j_goto rfl (g)))) (l_Wo_oldestSisterFor_L2 hd v0 v1 v2 hR hX n (v3 + (1 : Int32)) σ)
        refine J_bind fun x7 hx7 => ?_
        refine J_bind fun x8 hx8 => ?_
        refine q_J.step (fun g => j_if_f rfl (cc_eq_f h6) (j_aload_n rfl rfl (j_gfr rfl hx7 (j_iload_n rfl rfl (j_bal rfl rfl hx8 (g)))))) ?_
        refine J_ite (fun h9 => ?_) (fun h9 => ?_)
        · exact q_J.step (fun g => j_if_t rfl (cc_eq_t h9) (j_iinc [some (.ref v0), some (.int v1), some (.int v2), some (.int (v3 + (1 : Int32)))] (v3 + (1 : Int32)) rfl rfl (by rw [k32_1]) (Or.inr rfl) rfl (j_goto rfl (g)))) (l_Wo_oldestSisterFor_L2 hd v0 v1 v2 hR hX n (v3 + (1 : Int32)) σ)
        refine J_bind fun x10 hx10 => ?_
        refine J_bind fun x11 hx11 => ?_
        refine q_J.step (fun g => j_if_f rfl (cc_eq_f h9) (j_aload_n rfl rfl (j_gfr rfl hx10 (j_iload_n rfl rfl (j_ial rfl hx11 (j_bipush (12 : Int32) rfl kb_12 (g))))))) ?_
        refine J_ite (fun h12 => ?_) (fun h12 => ?_)
        · exact q_J.step (fun g => j_icmp_t rfl (cc_lt_t h12) (j_iinc [some (.ref v0), some (.int v1), some (.int v2), some (.int (v3 + (1 : Int32)))] (v3 + (1 : Int32)) rfl rfl (by rw [k32_1]) (Or.inr rfl) rfl (j_goto rfl (g)))) (l_Wo_oldestSisterFor_L2 hd v0 v1 v2 hR hX n (v3 + (1 : Int32)) σ)
        refine J_bind fun x13 hx13 => ?_
        refine J_bind fun x14 hx14 => ?_
        refine q_J.step (fun g => j_icmp_f rfl (cc_lt_f h12) (j_aload_n rfl rfl (j_gfr rfl hx13 (j_iload_n rfl rfl (j_bal rfl rfl hx14 (g)))))) ?_
        refine J_ite (fun h15 => ?_) (fun h15 => ?_)
        · refine J_bind fun x16 hx16 => ?_
          refine J_bind fun x17 hx17 => ?_
          refine J_bind fun x18 hx18 => ?_
          refine J_bind fun x19 hx19 => ?_
          refine q_J.step (fun g => j_if_f rfl (cc_ne_f h15) (j_aload_n rfl rfl (j_gfr rfl hx16 (j_iload_n rfl rfl (j_ial rfl hx17 (j_aload_n rfl rfl (j_gfr rfl hx18 (j_iload_n rfl rfl (j_ial rfl hx19 (j_isub rfl (j_abs rfl rfl (j_iload_n rfl rfl (g))))))))))))) ?_
          refine J_ite (fun h20 => ?_) (fun h20 => ?_)
          · exact q_J.step (fun g => j_icmp_t rfl (cc_gt_t h20) (j_iinc [some (.ref v0), some (.int v1), some (.int v2), some (.int (v3 + (1 : Int32)))] (v3 + (1 : Int32)) rfl rfl (by rw [k32_1]) (Or.inr rfl) rfl (j_goto rfl (g)))) (l_Wo_oldestSisterFor_L2 hd v0 v1 v2 hR hX n (v3 + (1 : Int32)) σ)
          exact J_some (fun h => j_icmp_f rfl (cc_gt_f h20) (j_iload_n rfl rfl (j_iret rfl rfl (hR _ _ h))))
        exact q_J.step (fun g => j_if_t rfl (cc_ne_t h15) (j_iinc [some (.ref v0), some (.int v1), some (.int v2), some (.int (v3 + (1 : Int32)))] (v3 + (1 : Int32)) rfl rfl (by rw [k32_1]) (Or.inr rfl) rfl (j_goto rfl (g)))) (l_Wo_oldestSisterFor_L2 hd v0 v1 v2 hR hX n (v3 + (1 : Int32)) σ)
      exact J_some (fun h => j_icmp_t rfl (cc_ge_t h3) (j_weak (l := [none, none, none, none]) (And.intro (Or.inl rfl) (And.intro (Or.inl rfl) (And.intro (Or.inl rfl) (And.intro (Or.inl rfl) True.intro)))) (hX _ _ h)))
    exact J_some (fun h => j_icmp_t rfl (cc_ge_t h2) (j_weak (l := [none, none, none, none]) (And.intro (Or.inl rfl) (And.intro (Or.inl rfl) (And.intro (Or.inl rfl) (And.intro (Or.inl rfl) True.intro)))) (hX _ _ h)))

set_option maxRecDepth 100000 in
theorem b_Wo_oldestSisterFor {fo : Option Nat} {d : Nat} (hd : 1 ≤ d + 1) {o : q_O} {σ' : q_H} (v0 : Nat) (v1 : Int32) (v2 : Int32) (σ : q_H) : q_J (fun (r : Int32) (σ1 : q_H) => o = .inl (some (.int r)) ∧ σ' = σ1) (f_Wo_oldestSisterFor v0 v1 v2 σ) (q_G (q_rf fo) d m_Wo_oldestSisterFor o σ' 0 [some (.ref v0), some (.int v1), some (.int v2), none] [] σ) := by
  unfold f_Wo_oldestSisterFor
  refine J_sq (fun (t0 : Int32 ⊕ Unit) (σ2 : q_H) => match t0 with | .inl r => o = .inl (some (.int r)) ∧ σ' = σ2 | .inr t1 => q_G (q_rf fo) d m_Wo_oldestSisterFor o σ' 82 [none, none, none, none] [] σ2) (q_J.step (fun g => j_iconst (0 : Int32) rfl k32_0 (j_istore_n [some (.ref v0), some (.int v1), some (.int v2), some (.int (0 : Int32))] rfl rfl (Or.inr rfl) rfl (g))) (l_Wo_oldestSisterFor_L2 hd v0 v1 v2 (fun _ _ h => h) (fun _ _ h => h) q_FU (0 : Int32) σ)) (fun t0 σ2 => ?_)
  cases t0 with
  | inl r3 => exact J_some (fun h => h)
  | inr t1 =>
    exact J_some (fun h => j_iconst (-1 : Int32) rfl k32_m1 (j_iret rfl rfl h))
theorem t_Wo_oldestSisterFor {fo : Option Nat} {d : Nat} (hd : 1 ≤ d) {v0 : Nat} {v1 : Int32} {v2 : Int32} {σ σ1 : q_H} {r : Int32} (h : f_Wo_oldestSisterFor v0 v1 v2 σ = some (r, σ1)) : q_Rel (q_rf fo) q_Ms d 46 [.ref v0, .int v1, .int v2] σ (.inl (some (.int r))) σ1 := by
  obtain ⟨d, rfl⟩ : ∃ d1, d = d1 + 1 := ⟨d - 1, by omega⟩
  exact q_Rel.of rfl rfl (b_Wo_oldestSisterFor hd _ _ _ σ _ _ h ⟨rfl, rfl⟩)

set_option maxRecDepth 100000 in
theorem b_La_init {fo : Option Nat} {d : Nat} (hd : 1 ≤ d + 1) {o : q_O} {σ' : q_H} (v0 : Nat) (v1 : Nat) (v2 : Int32) (v3 : Int32) (σ : q_H) : q_J (fun (r : Unit) (σ1 : q_H) => o = .inl none ∧ σ' = σ1) (f_La_init v0 v1 v2 v3 σ) (q_G (q_rf fo) d m_La_init o σ' 0 [some (.ref v0), some (.ref v1), some (.int v2), some (.int v3)] [] σ) := by
  unfold f_La_init
  refine J_ma fun σ1 a2 hσ1 ha2 => ?_
  refine J_bind fun σ3 hσ3 => ?_
  refine J_bind fun σ4 hσ4 => ?_
  refine J_bind fun σ5 hσ5 => ?_
  refine J_bind fun σ6 hσ6 => ?_
  exact J_some (fun h => j_aload_n rfl rfl (j_obj rfl rfl (j_aload_n rfl rfl (j_bipush (32 : Int32) rfl kb_32 (j_newk 32 (.int 0) rfl rfl rfl (by decide) (by decide) hσ1 ha2 (j_putf rfl rfl rfl rfl hσ3 (j_aload_n rfl rfl (j_aload_n rfl rfl (j_putf rfl rfl rfl rfl hσ4 (j_aload_n rfl rfl (j_iload_n rfl rfl (j_putf rfl rfl rfl rfl hσ5 (j_aload_n rfl rfl (j_iload_n rfl rfl (j_putf rfl rfl rfl rfl hσ6 (j_vret rfl rfl h))))))))))))))))
theorem t_La_init {fo : Option Nat} {d : Nat} (hd : 1 ≤ d) {v0 : Nat} {v1 : Nat} {v2 : Int32} {v3 : Int32} {σ σ1 : q_H} {r : Unit} (h : f_La_init v0 v1 v2 v3 σ = some (r, σ1)) : q_Rel (q_rf fo) q_Ms d 47 [.ref v0, .ref v1, .int v2, .int v3] σ (.inl none) σ1 := by
  obtain ⟨d, rfl⟩ : ∃ d1, d = d1 + 1 := ⟨d - 1, by omega⟩
  exact q_Rel.of rfl rfl (b_La_init hd _ _ _ _ σ _ _ h ⟨rfl, rfl⟩)

set_option maxRecDepth 100000 in
theorem b_La_joined {fo : Option Nat} {d : Nat} (hd : 1 ≤ d + 1) {o : q_O} {σ' : q_H} (v0 : Int32) (v1 : Int32) (v2 : Int32) (σ : q_H) : q_J (fun (r : Int32) (σ1 : q_H) => o = .inl (some (.int r)) ∧ σ' = σ1) (f_La_joined v0 v1 v2 σ) (q_G (q_rf fo) d m_La_joined o σ' 0 [some (.int v0), some (.int v1), some (.int v2)] [] σ) := by
  unfold f_La_joined
  refine q_J.step (fun g => j_iload_n rfl rfl (g)) ?_
  refine J_ite (fun h1 => ?_) (fun h1 => ?_)
  · refine q_J.step (fun g => j_sw 40 rfl (by rw [h1]; decide) (by rw [h1]; decide) (j_iload_n rfl rfl (g))) ?_
    refine J_ite (fun h2 => ?_) (fun h2 => ?_)
    · exact J_some (fun h => j_if_t rfl (cc_eq_t h2) (j_iconst (0 : Int32) rfl k32_0 (j_iret rfl rfl h)))
    refine q_J.step (fun g => j_if_f rfl (cc_eq_f h2) (j_iload_n rfl rfl (g))) ?_
    refine J_ite (fun h3 => ?_) (fun h3 => ?_)
    · exact J_some (fun h => j_if_t rfl (cc_eq_t h3) (j_iconst (0 : Int32) rfl k32_0 (j_iret rfl rfl h)))
    exact J_some (fun h => j_if_f rfl (cc_eq_f h3) (j_iconst (1 : Int32) rfl k32_1 (j_goto rfl (j_iret rfl rfl h))))
  refine J_ite (fun h4 => ?_) (fun h4 => ?_)
  · refine q_J.step (fun g => j_sw 54 rfl (by rw [h4]; decide) (by rw [h4]; decide) (j_iload_n rfl rfl (g))) ?_
    refine J_ite (fun h5 => ?_) (fun h5 => ?_)
    · refine q_J.step (fun g => j_if_f rfl (cc_ne_f h5) (j_iload_n rfl rfl (g))) ?_
      refine J_ite (fun h6 => ?_) (fun h6 => ?_)
      · exact J_some (fun h => j_if_t rfl (cc_eq_t h6) (j_iconst (0 : Int32) rfl k32_0 (j_iret rfl rfl h)))
      exact J_some (fun h => j_if_f rfl (cc_eq_f h6) (j_iconst (1 : Int32) rfl k32_1 (j_goto rfl (j_iret rfl rfl h))))
    exact J_some (fun h => j_if_t rfl (cc_ne_t h5) (j_iconst (1 : Int32) rfl k32_1 (j_goto rfl (j_iret rfl rfl h))))
  refine J_ite (fun h7 => ?_) (fun h7 => ?_)
  · refine q_J.step (fun g => j_sw 68 rfl (by rw [h7]; decide) (by rw [h7]; decide) (j_iload_n rfl rfl (j_iload_n rfl rfl (g)))) ?_
    refine J_ite (fun h8 => ?_) (fun h8 => ?_)
    · exact J_some (fun h => j_icmp_f rfl (cc_ge_f h8) (j_iconst (1 : Int32) rfl k32_1 (j_goto rfl (j_iret rfl rfl h))))
    exact J_some (fun h => j_icmp_t rfl (cc_ge_t h8) (j_iconst (0 : Int32) rfl k32_0 (j_iret rfl rfl h)))
  refine J_ite (fun h9 => ?_) (fun h9 => ?_)
  · refine q_J.step (fun g => j_sw 79 rfl (by rw [h9]; decide) (by rw [h9]; decide) (j_iload_n rfl rfl (j_iload_n rfl rfl (g)))) ?_
    refine J_ite (fun h10 => ?_) (fun h10 => ?_)
    · exact J_some (fun h => j_icmp_f rfl (cc_ne_f h10) (j_iconst (1 : Int32) rfl k32_1 (j_goto rfl (j_iret rfl rfl h))))
    exact J_some (fun h => j_icmp_t rfl (cc_ne_t h10) (j_iconst (0 : Int32) rfl k32_0 (j_iret rfl rfl h)))
  refine J_ite (fun h11 => ?_) (fun h11 => ?_)
  · exact J_some (fun h => j_sw 90 rfl (by rw [h11]; decide) (by rw [h11]; decide) (j_iload_n rfl rfl (j_iload_n rfl rfl (j_iadd rfl (j_iret rfl rfl h)))))
  refine J_ite (fun h12 => ?_) (fun h12 => ?_)
  · exact J_some (fun h => j_sw 94 rfl (by rw [h12]; decide) (by rw [h12]; decide) (j_iload_n rfl rfl (j_iload_n rfl rfl (j_isub rfl (j_iret rfl rfl h)))))
  exact J_some (fun h => j_swd 98 rfl (q_swd_20002_20007 h1 h4 h7 h9 h11 h12) rfl (j_iload_n rfl rfl (j_iload_n rfl rfl (j_imul rfl (j_iret rfl rfl h)))))
theorem t_La_joined {fo : Option Nat} {d : Nat} (hd : 1 ≤ d) {v0 : Int32} {v1 : Int32} {v2 : Int32} {σ σ1 : q_H} {r : Int32} (h : f_La_joined v0 v1 v2 σ = some (r, σ1)) : q_Rel (q_rf fo) q_Ms d 49 [.int v0, .int v1, .int v2] σ (.inl (some (.int r))) σ1 := by
  obtain ⟨d, rfl⟩ : ∃ d1, d = d1 + 1 := ⟨d - 1, by omega⟩
  exact q_Rel.of rfl rfl (b_La_joined hd _ _ _ σ _ _ h ⟨rfl, rfl⟩)

set_option maxRecDepth 100000 in
theorem b_Lr_init {fo : Option Nat} {d : Nat} (hd : 1 ≤ d + 1) {o : q_O} {σ' : q_H} (v0 : Nat) (v1 : Nat) (v2 : Nat) (σ : q_H) : q_J (fun (r : Unit) (σ1 : q_H) => o = .inl none ∧ σ' = σ1) (f_Lr_init v0 v1 v2 σ) (q_G (q_rf fo) d m_Lr_init o σ' 0 [some (.ref v0), some (.ref v1), some (.ref v2)] [] σ) := by
  unfold f_Lr_init
  refine J_bind fun σ1 hσ1 => ?_
  refine J_bind fun σ2 hσ2 => ?_
  refine J_bind fun x3 hx3 => ?_
  refine q_J.step (fun g => j_aload_n rfl rfl (j_obj rfl rfl (j_aload_n rfl rfl (j_aload_n rfl rfl (j_putf rfl rfl rfl rfl hσ1 (j_aload_n rfl rfl (j_aload_n rfl rfl (j_putf rfl rfl rfl rfl hσ2 (j_aload_n rfl rfl (j_iconst (0 : Int32) rfl k32_0 (j_aload_n rfl rfl (j_gfi rfl hx3 (j_max rfl rfl (g)))))))))))))) ?_
  refine J_ite (fun _ => J_none) (fun h6 => ?_)
  refine J_ma fun σ4 a5 hσ4 ha5 => ?_
  refine J_bind fun σ7 hσ7 => ?_
  exact J_some (fun h => j_newk ((if (0 : Int32) < x3 then x3 else (0 : Int32)).toNatClampNeg) (.int 0) rfl rfl rfl (Decidable.not_not.mp h6) rfl hσ4 ha5 (j_putf rfl rfl rfl rfl hσ7 (j_vret rfl rfl h)))
theorem t_Lr_init {fo : Option Nat} {d : Nat} (hd : 1 ≤ d) {v0 : Nat} {v1 : Nat} {v2 : Nat} {σ σ1 : q_H} {r : Unit} (h : f_Lr_init v0 v1 v2 σ = some (r, σ1)) : q_Rel (q_rf fo) q_Ms d 50 [.ref v0, .ref v1, .ref v2] σ (.inl none) σ1 := by
  obtain ⟨d, rfl⟩ : ∃ d1, d = d1 + 1 := ⟨d - 1, by omega⟩
  exact q_Rel.of rfl rfl (b_Lr_init hd _ _ _ σ _ _ h ⟨rfl, rfl⟩)

set_option maxRecDepth 100000 in
theorem b_Lr_emit {fo : Option Nat} {d : Nat} (hd : 1 ≤ d + 1) {o : q_O} {σ' : q_H} (v0 : Nat) (v1 : Int32) (σ : q_H) : q_J (fun (r : Unit) (σ1 : q_H) => o = .inl none ∧ σ' = σ1) (f_Lr_emit v0 v1 σ) (q_G (q_rf fo) d m_Lr_emit o σ' 0 [some (.ref v0), some (.int v1)] [] σ) := by
  unfold f_Lr_emit
  refine J_bind fun x1 hx1 => ?_
  refine J_bind fun x2 hx2 => ?_
  refine J_bind fun x3 hx3 => ?_
  refine q_J.step (fun g => j_aload_n rfl rfl (j_gfi rfl hx1 (j_aload_n rfl rfl (j_gfr rfl hx2 (j_alen rfl hx3 (g)))))) ?_
  refine J_ite (fun h4 => ?_) (fun h4 => ?_)
  · refine J_bind fun x5 hx5 => ?_
    refine J_bind fun x6 hx6 => ?_
    refine J_bind fun σ7 hσ7 => ?_
    refine J_bind fun x8 hx8 => ?_
    refine J_bind fun σ9 hσ9 => ?_
    exact J_some (fun h => j_icmp_f rfl (cc_ge_f h4) (j_aload_n rfl rfl (j_gfr rfl hx5 (j_aload_n rfl rfl (j_gfi rfl hx6 (j_iload_n rfl rfl (j_ias rfl hσ7 (j_aload_n rfl rfl (j_dup rfl rfl (j_gfi rfl hx8 (j_iconst (1 : Int32) rfl k32_1 (j_iadd rfl (j_putf rfl rfl rfl rfl hσ9 (j_vret rfl rfl h))))))))))))))
  exact J_some (fun h => j_icmp_t rfl (cc_ge_t h4) (j_vret rfl rfl h))
theorem t_Lr_emit {fo : Option Nat} {d : Nat} (hd : 1 ≤ d) {v0 : Nat} {v1 : Int32} {σ σ1 : q_H} {r : Unit} (h : f_Lr_emit v0 v1 σ = some (r, σ1)) : q_Rel (q_rf fo) q_Ms d 59 [.ref v0, .int v1] σ (.inl none) σ1 := by
  obtain ⟨d, rfl⟩ : ∃ d1, d = d1 + 1 := ⟨d - 1, by omega⟩
  exact q_Rel.of rfl rfl (b_Lr_emit hd _ _ σ _ _ h ⟨rfl, rfl⟩)

set_option maxRecDepth 100000 in
theorem l_Pa_lineOf_L2 {fo : Option Nat} {d : Nat} (hd : 1 ≤ d + 1) {o : q_O} {σ' : q_H} {E : (Int32 ⊕ Unit) → q_H → Prop} (v0 : Nat) (v1 : Int64) (hR : ∀ r σ1, E (.inl r) σ1 → o = .inl (some (.int r)) ∧ σ' = σ1) (hX : ∀ (t : Unit) σ1, E (.inr t) σ1 → q_G (q_rf fo) d m_Pa_lineOf o σ' 29 [none, none, none, none] [] σ1)  : ∀ (n : Nat) (v3 : Int32) (σ : q_H), q_J E (f_Pa_lineOf_L2 v0 v1 n v3 σ) (q_G (q_rf fo) d m_Pa_lineOf o σ' 2 [some (.ref v0), some (.long v1), none, some (.int v3)] [] σ)
  | 0, v3, σ => J_none
  | n + 1, v3, σ => by
    unfold f_Pa_lineOf_L2
    refine J_bind fun x1 hx1 => ?_
    refine q_J.step (fun g => j_iload_n rfl rfl (j_aload_n rfl rfl (j_gfi rfl hx1 (g)))) ?_
    refine J_ite (fun h2 => ?_) (fun h2 => ?_)
    · refine J_bind fun x3 hx3 => ?_
      refine J_bind fun x4 hx4 => ?_
      refine q_J.step (fun g => j_icmp_f rfl (cc_ge_f h2) (j_aload_n rfl rfl (j_gfr rfl hx3 (j_iload_n rfl rfl (j_lal rfl hx4 (j_lload_n rfl rfl (j_lcmp rfl (g)))))))) ?_
      refine J_ite (fun h5 => ?_) (fun h5 => ?_)
      · exact J_some (fun h => j_if_f rfl (lc_ne_f h5) (j_iload_n rfl rfl (j_iret rfl rfl (hR _ _ h))))
      exact q_J.step (fun g => j_if_t rfl (lc_ne_t h5) (j_iinc [some (.ref v0), some (.long v1), none, some (.int (v3 + (1 : Int32)))] (v3 + (1 : Int32)) rfl rfl (by rw [k32_1]) (Or.inr True.intro) rfl (j_goto rfl (g)))) (l_Pa_lineOf_L2 hd v0 v1 hR hX n (v3 + (1 : Int32)) σ)
    exact J_some (fun h => j_icmp_t rfl (cc_ge_t h2) (j_weak (l := [none, none, none, none]) (And.intro (Or.inl rfl) (And.intro (Or.inl rfl) (And.intro (Or.inr rfl) (And.intro (Or.inl rfl) True.intro)))) (hX _ _ h)))

set_option maxRecDepth 100000 in
theorem b_Pa_lineOf {fo : Option Nat} {d : Nat} (hd : 1 ≤ d + 1) {o : q_O} {σ' : q_H} (v0 : Nat) (v1 : Int64) (σ : q_H) : q_J (fun (r : Int32) (σ1 : q_H) => o = .inl (some (.int r)) ∧ σ' = σ1) (f_Pa_lineOf v0 v1 σ) (q_G (q_rf fo) d m_Pa_lineOf o σ' 0 [some (.ref v0), some (.long v1), none, none] [] σ) := by
  unfold f_Pa_lineOf
  refine J_sq (fun (t0 : Int32 ⊕ Unit) (σ2 : q_H) => match t0 with | .inl r => o = .inl (some (.int r)) ∧ σ' = σ2 | .inr t1 => q_G (q_rf fo) d m_Pa_lineOf o σ' 29 [none, none, none, none] [] σ2) (q_J.step (fun g => j_iconst (0 : Int32) rfl k32_0 (j_istore_n [some (.ref v0), some (.long v1), none, some (.int (0 : Int32))] rfl rfl (Or.inr True.intro) rfl (g))) (l_Pa_lineOf_L2 hd v0 v1 (fun _ _ h => h) (fun _ _ h => h) q_FU (0 : Int32) σ)) (fun t0 σ2 => ?_)
  cases t0 with
  | inl r3 => exact J_some (fun h => h)
  | inr t1 =>
    exact J_some (fun h => j_iconst (-1 : Int32) rfl k32_m1 (j_iret rfl rfl h))
theorem t_Pa_lineOf {fo : Option Nat} {d : Nat} (hd : 1 ≤ d) {v0 : Nat} {v1 : Int64} {σ σ1 : q_H} {r : Int32} (h : f_Pa_lineOf v0 v1 σ = some (r, σ1)) : q_Rel (q_rf fo) q_Ms d 61 [.ref v0, .long v1] σ (.inl (some (.int r))) σ1 := by
  obtain ⟨d, rfl⟩ : ∃ d1, d = d1 + 1 := ⟨d - 1, by omega⟩
  exact q_Rel.of rfl rfl (b_Pa_lineOf hd _ _ σ _ _ h ⟨rfl, rfl⟩)

set_option maxRecDepth 100000 in
theorem l_Pa_hasWife_L2 {fo : Option Nat} {d : Nat} (hd : 1 ≤ d + 1) {o : q_O} {σ' : q_H} {E : (Int32 ⊕ Unit) → q_H → Prop} (v0 : Nat) (v1 : Int32) (hR : ∀ r σ1, E (.inl r) σ1 → o = .inl (some (.int r)) ∧ σ' = σ1) (hX : ∀ (t : Unit) σ1, E (.inr t) σ1 → q_G (q_rf fo) d m_Pa_hasWife o σ' 28 [none, none, none] [] σ1)  : ∀ (n : Nat) (v2 : Int32) (σ : q_H), q_J E (f_Pa_hasWife_L2 v0 v1 n v2 σ) (q_G (q_rf fo) d m_Pa_hasWife o σ' 2 [some (.ref v0), some (.int v1), some (.int v2)] [] σ)
  | 0, v2, σ => J_none
  | n + 1, v2, σ => by
    unfold f_Pa_hasWife_L2
    refine J_bind fun x1 hx1 => ?_
    refine q_J.step (fun g => j_iload_n rfl rfl (j_aload_n rfl rfl (j_gfi rfl hx1 (g)))) ?_
    refine J_ite (fun h2 => ?_) (fun h2 => ?_)
    · refine J_bind fun x3 hx3 => ?_
      refine J_bind fun x4 hx4 => ?_
      refine q_J.step (fun g => j_icmp_f rfl (cc_ge_f h2) (j_aload_n rfl rfl (j_gfr rfl hx3 (j_iload_n rfl rfl (j_ial rfl hx4 (j_iload_n rfl rfl (g))))))) ?_
      refine J_ite (fun h5 => ?_) (fun h5 => ?_)
      · exact J_some (fun h => j_icmp_f rfl (cc_ne_f h5) (j_iconst (1 : Int32) rfl k32_1 (j_iret rfl (q_zr (Or.inr rfl)) (hR _ _ h))))
      exact q_J.step (fun g => j_icmp_t rfl (cc_ne_t h5) (j_iinc [some (.ref v0), some (.int v1), some (.int (v2 + (1 : Int32)))] (v2 + (1 : Int32)) rfl rfl (by rw [k32_1]) (Or.inr rfl) rfl (j_goto rfl (g)))) (l_Pa_hasWife_L2 hd v0 v1 hR hX n (v2 + (1 : Int32)) σ)
    exact J_some (fun h => j_icmp_t rfl (cc_ge_t h2) (j_weak (l := [none, none, none]) (And.intro (Or.inl rfl) (And.intro (Or.inl rfl) (And.intro (Or.inl rfl) True.intro))) (hX _ _ h)))

set_option maxRecDepth 100000 in
theorem b_Pa_hasWife {fo : Option Nat} {d : Nat} (hd : 1 ≤ d + 1) {o : q_O} {σ' : q_H} (v0 : Nat) (v1 : Int32) (σ : q_H) : q_J (fun (r : Int32) (σ1 : q_H) => o = .inl (some (.int r)) ∧ σ' = σ1) (f_Pa_hasWife v0 v1 σ) (q_G (q_rf fo) d m_Pa_hasWife o σ' 0 [some (.ref v0), some (.int v1), none] [] σ) := by
  unfold f_Pa_hasWife
  refine J_sq (fun (t0 : Int32 ⊕ Unit) (σ2 : q_H) => match t0 with | .inl r => o = .inl (some (.int r)) ∧ σ' = σ2 | .inr t1 => q_G (q_rf fo) d m_Pa_hasWife o σ' 28 [none, none, none] [] σ2) (q_J.step (fun g => j_iconst (0 : Int32) rfl k32_0 (j_istore_n [some (.ref v0), some (.int v1), some (.int (0 : Int32))] rfl rfl (Or.inr rfl) rfl (g))) (l_Pa_hasWife_L2 hd v0 v1 (fun _ _ h => h) (fun _ _ h => h) q_FU (0 : Int32) σ)) (fun t0 σ2 => ?_)
  cases t0 with
  | inl r3 => exact J_some (fun h => h)
  | inr t1 =>
    exact J_some (fun h => j_iconst (0 : Int32) rfl k32_0 (j_iret rfl (q_zr (Or.inl rfl)) h))
theorem t_Pa_hasWife {fo : Option Nat} {d : Nat} (hd : 1 ≤ d) {v0 : Nat} {v1 : Int32} {σ σ1 : q_H} {r : Int32} (h : f_Pa_hasWife v0 v1 σ = some (r, σ1)) : q_Rel (q_rf fo) q_Ms d 62 [.ref v0, .int v1] σ (.inl (some (.int r))) σ1 := by
  obtain ⟨d, rfl⟩ : ∃ d1, d = d1 + 1 := ⟨d - 1, by omega⟩
  exact q_Rel.of rfl rfl (b_Pa_hasWife hd _ _ σ _ _ h ⟨rfl, rfl⟩)

set_option maxRecDepth 100000 in
theorem b_Pa_isFull {fo : Option Nat} {d : Nat} (hd : 1 ≤ d + 1) {o : q_O} {σ' : q_H} (v0 : Nat) (v1 : Int32) (v2 : Nat) (v3 : Int32) (σ : q_H) : q_J (fun (r : Int32) (σ1 : q_H) => o = .inl (some (.int r)) ∧ σ' = σ1) (f_Pa_isFull v0 v1 v2 v3 σ) (q_G (q_rf fo) d m_Pa_isFull o σ' 0 [some (.ref v0), some (.int v1), some (.ref v2), some (.int v3)] [] σ) := by
  unfold f_Pa_isFull
  refine J_bind fun x1 hx1 => ?_
  refine J_bind fun x2 hx2 => ?_
  refine q_J.step (fun g => j_aload_n rfl rfl (j_gfr rfl hx1 (j_iload_n rfl rfl (j_lal rfl hx2 (j_lconst (0 : Int64) rfl kl_0 (j_lcmp rfl (g))))))) ?_
  refine J_ite (fun h3 => ?_) (fun h3 => ?_)
  · exact J_some (fun h => j_if_t rfl (lc_eq_t h3) (j_iconst (0 : Int32) rfl k32_0 (j_iret rfl (q_zr (Or.inl rfl)) h)))
  refine J_bind fun x4 hx4 => ?_
  refine J_bind fun x5 hx5 => ?_
  refine J_bind fun x6 hx6 => ?_
  refine J_bind fun x7 hx7 => ?_
  refine q_J.step (fun g => j_if_f rfl (lc_eq_f h3) (j_aload_n rfl rfl (j_gfr rfl hx4 (j_iload_n rfl rfl (j_lal rfl hx5 (j_aload_n rfl rfl (j_gfr rfl hx6 (j_iload_n rfl rfl (j_lal rfl hx7 (j_lcmp rfl (g))))))))))) ?_
  refine J_ite (fun h8 => ?_) (fun h8 => ?_)
  · refine J_bind fun x9 hx9 => ?_
    refine J_bind fun x10 hx10 => ?_
    refine q_J.step (fun g => j_if_f rfl (lc_ne_f h8) (j_aload_n rfl rfl (j_gfr rfl hx9 (j_iload_n rfl rfl (j_lal rfl hx10 (j_lconst (0 : Int64) rfl kl_0 (j_lcmp rfl (g)))))))) ?_
    refine J_ite (fun h11 => ?_) (fun h11 => ?_)
    · exact J_some (fun h => j_if_t rfl (lc_eq_t h11) (j_iconst (0 : Int32) rfl k32_0 (j_iret rfl (q_zr (Or.inl rfl)) h)))
    refine J_bind fun x12 hx12 => ?_
    refine J_bind fun x13 hx13 => ?_
    refine J_bind fun x14 hx14 => ?_
    refine J_bind fun x15 hx15 => ?_
    refine q_J.step (fun g => j_if_f rfl (lc_eq_f h11) (j_aload_n rfl rfl (j_gfr rfl hx12 (j_iload_n rfl rfl (j_lal rfl hx13 (j_aload_n rfl rfl (j_gfr rfl hx14 (j_iload_n rfl rfl (j_lal rfl hx15 (j_lcmp rfl (g))))))))))) ?_
    refine J_ite (fun h16 => ?_) (fun h16 => ?_)
    · exact J_some (fun h => j_if_f rfl (lc_ne_f h16) (j_iconst (1 : Int32) rfl k32_1 (j_goto rfl (j_iret rfl (q_zr (Or.inr rfl)) h))))
    exact J_some (fun h => j_if_t rfl (lc_ne_t h16) (j_iconst (0 : Int32) rfl k32_0 (j_iret rfl (q_zr (Or.inl rfl)) h)))
  exact J_some (fun h => j_if_t rfl (lc_ne_t h8) (j_iconst (0 : Int32) rfl k32_0 (j_iret rfl (q_zr (Or.inl rfl)) h)))
theorem t_Pa_isFull {fo : Option Nat} {d : Nat} (hd : 1 ≤ d) {v0 : Nat} {v1 : Int32} {v2 : Nat} {v3 : Int32} {σ σ1 : q_H} {r : Int32} (h : f_Pa_isFull v0 v1 v2 v3 σ = some (r, σ1)) : q_Rel (q_rf fo) q_Ms d 66 [.ref v0, .int v1, .ref v2, .int v3] σ (.inl (some (.int r))) σ1 := by
  obtain ⟨d, rfl⟩ : ∃ d1, d = d1 + 1 := ⟨d - 1, by omega⟩
  exact q_Rel.of rfl rfl (b_Pa_isFull hd _ _ _ _ σ _ _ h ⟨rfl, rfl⟩)

set_option maxRecDepth 100000 in
theorem b_Pa_isHalf {fo : Option Nat} {d : Nat} (hd : 1 ≤ d + 1) {o : q_O} {σ' : q_H} (v0 : Nat) (v1 : Int32) (v2 : Int32) (σ : q_H) : q_J (fun (r : Int32) (σ1 : q_H) => o = .inl (some (.int r)) ∧ σ' = σ1) (f_Pa_isHalf v0 v1 v2 σ) (q_G (q_rf fo) d m_Pa_isHalf o σ' 0 [some (.ref v0), some (.int v1), some (.int v2)] [] σ) := by
  unfold f_Pa_isHalf
  refine J_bind fun x1 hx1 => ?_
  refine J_bind fun x2 hx2 => ?_
  refine q_J.step (fun g => j_aload_n rfl rfl (j_gfr rfl hx1 (j_iload_n rfl rfl (j_lal rfl hx2 (j_lconst (0 : Int64) rfl kl_0 (j_lcmp rfl (g))))))) ?_
  refine J_ite (fun h3 => ?_) (fun h3 => ?_)
  · refine J_bind fun x4 hx4 => ?_
    refine J_bind fun x5 hx5 => ?_
    refine q_J.step (fun g => j_if_t rfl (lc_eq_t h3) (j_aload_n rfl rfl (j_gfr rfl hx4 (j_iload_n rfl rfl (j_lal rfl hx5 (j_lconst (0 : Int64) rfl kl_0 (j_lcmp rfl (g)))))))) ?_
    refine J_ite (fun h6 => ?_) (fun h6 => ?_)
    · exact J_some (fun h => j_if_t rfl (lc_eq_t h6) (j_iconst (0 : Int32) rfl k32_0 (j_iret rfl (q_zr (Or.inl rfl)) h)))
    refine J_bind fun x7 hx7 => ?_
    refine J_bind fun x8 hx8 => ?_
    refine J_bind fun x9 hx9 => ?_
    refine J_bind fun x10 hx10 => ?_
    refine q_J.step (fun g => j_if_f rfl (lc_eq_f h6) (j_aload_n rfl rfl (j_gfr rfl hx7 (j_iload_n rfl rfl (j_lal rfl hx8 (j_aload_n rfl rfl (j_gfr rfl hx9 (j_iload_n rfl rfl (j_lal rfl hx10 (j_lcmp rfl (g))))))))))) ?_
    refine J_ite (fun h11 => ?_) (fun h11 => ?_)
    · exact J_some (fun h => j_if_f rfl (lc_ne_f h11) (j_iconst (1 : Int32) rfl k32_1 (j_goto rfl (j_iret rfl (q_zr (Or.inr rfl)) h))))
    exact J_some (fun h => j_if_t rfl (lc_ne_t h11) (j_iconst (0 : Int32) rfl k32_0 (j_iret rfl (q_zr (Or.inl rfl)) h)))
  refine J_bind fun x12 hx12 => ?_
  refine J_bind fun x13 hx13 => ?_
  refine J_bind fun x14 hx14 => ?_
  refine J_bind fun x15 hx15 => ?_
  refine q_J.step (fun g => j_if_f rfl (lc_eq_f h3) (j_aload_n rfl rfl (j_gfr rfl hx12 (j_iload_n rfl rfl (j_lal rfl hx13 (j_aload_n rfl rfl (j_gfr rfl hx14 (j_iload_n rfl rfl (j_lal rfl hx15 (j_lcmp rfl (g))))))))))) ?_
  refine J_ite (fun h16 => ?_) (fun h16 => ?_)
  · exact J_some (fun h => j_if_t rfl (lc_eq_t h16) (j_iconst (1 : Int32) rfl k32_1 (j_goto rfl (j_iret rfl (q_zr (Or.inr rfl)) h))))
  refine J_bind fun x17 hx17 => ?_
  refine J_bind fun x18 hx18 => ?_
  refine q_J.step (fun g => j_if_f rfl (lc_eq_f h16) (j_aload_n rfl rfl (j_gfr rfl hx17 (j_iload_n rfl rfl (j_lal rfl hx18 (j_lconst (0 : Int64) rfl kl_0 (j_lcmp rfl (g)))))))) ?_
  refine J_ite (fun h19 => ?_) (fun h19 => ?_)
  · exact J_some (fun h => j_if_t rfl (lc_eq_t h19) (j_iconst (0 : Int32) rfl k32_0 (j_iret rfl (q_zr (Or.inl rfl)) h)))
  refine J_bind fun x20 hx20 => ?_
  refine J_bind fun x21 hx21 => ?_
  refine J_bind fun x22 hx22 => ?_
  refine J_bind fun x23 hx23 => ?_
  refine q_J.step (fun g => j_if_f rfl (lc_eq_f h19) (j_aload_n rfl rfl (j_gfr rfl hx20 (j_iload_n rfl rfl (j_lal rfl hx21 (j_aload_n rfl rfl (j_gfr rfl hx22 (j_iload_n rfl rfl (j_lal rfl hx23 (j_lcmp rfl (g))))))))))) ?_
  refine J_ite (fun h24 => ?_) (fun h24 => ?_)
  · exact J_some (fun h => j_if_f rfl (lc_ne_f h24) (j_iconst (1 : Int32) rfl k32_1 (j_goto rfl (j_iret rfl (q_zr (Or.inr rfl)) h))))
  exact J_some (fun h => j_if_t rfl (lc_ne_t h24) (j_iconst (0 : Int32) rfl k32_0 (j_iret rfl (q_zr (Or.inl rfl)) h)))
theorem t_Pa_isHalf {fo : Option Nat} {d : Nat} (hd : 1 ≤ d) {v0 : Nat} {v1 : Int32} {v2 : Int32} {σ σ1 : q_H} {r : Int32} (h : f_Pa_isHalf v0 v1 v2 σ = some (r, σ1)) : q_Rel (q_rf fo) q_Ms d 67 [.ref v0, .int v1, .int v2] σ (.inl (some (.int r))) σ1 := by
  obtain ⟨d, rfl⟩ : ∃ d1, d = d1 + 1 := ⟨d - 1, by omega⟩
  exact q_Rel.of rfl rfl (b_Pa_isHalf hd _ _ _ σ _ _ h ⟨rfl, rfl⟩)

set_option maxRecDepth 100000 in
theorem b_Pa_slack {fo : Option Nat} {d : Nat} (hd : 1 ≤ d + 1) {o : q_O} {σ' : q_H} (v0 : Nat) (v1 : Int32) (σ : q_H) : q_J (fun (r : Int32) (σ1 : q_H) => o = .inl (some (.int r)) ∧ σ' = σ1) (f_Pa_slack v0 v1 σ) (q_G (q_rf fo) d m_Pa_slack o σ' 0 [some (.ref v0), some (.int v1)] [] σ) := by
  unfold f_Pa_slack
  refine J_bind fun x1 hx1 => ?_
  refine J_bind fun x2 hx2 => ?_
  refine q_J.step (fun g => j_aload_n rfl rfl (j_gfr rfl hx1 (j_iload_n rfl rfl (j_ial rfl hx2 (j_bipush (10 : Int32) rfl kb_10 (g)))))) ?_
  refine J_ite (fun h3 => ?_) (fun h3 => ?_)
  · exact J_some (fun h => j_icmp_t rfl (cc_lt_t h3) (j_iconst (0 : Int32) rfl k32_0 (j_iret rfl rfl h)))
  refine J_bind fun x4 hx4 => ?_
  refine J_bind fun x5 hx5 => ?_
  refine q_J.step (fun g => j_icmp_f rfl (cc_lt_f h3) (j_aload_n rfl rfl (j_gfr rfl hx4 (j_iload_n rfl rfl (j_ial rfl hx5 (j_iconst (5 : Int32) rfl k32_5 (j_irem rfl (by decide) (g)))))))) ?_
  refine J_ite (fun h6 => ?_) (fun h6 => ?_)
  · exact J_some (fun h => j_if_f rfl (cc_ne_f h6) (j_iconst (2 : Int32) rfl k32_2 (j_goto rfl (j_iret rfl rfl h))))
  exact J_some (fun h => j_if_t rfl (cc_ne_t h6) (j_iconst (0 : Int32) rfl k32_0 (j_iret rfl rfl h)))
theorem t_Pa_slack {fo : Option Nat} {d : Nat} (hd : 1 ≤ d) {v0 : Nat} {v1 : Int32} {σ σ1 : q_H} {r : Int32} (h : f_Pa_slack v0 v1 σ = some (r, σ1)) : q_Rel (q_rf fo) q_Ms d 70 [.ref v0, .int v1] σ (.inl (some (.int r))) σ1 := by
  obtain ⟨d, rfl⟩ : ∃ d1, d = d1 + 1 := ⟨d - 1, by omega⟩
  exact q_Rel.of rfl rfl (b_Pa_slack hd _ _ σ _ _ h ⟨rfl, rfl⟩)

set_option maxRecDepth 100000 in
theorem b_Sf_init {fo : Option Nat} {d : Nat} (hd : 1 ≤ d + 1) {o : q_O} {σ' : q_H} (v0 : Nat) (σ : q_H) : q_J (fun (r : Unit) (σ1 : q_H) => o = .inl none ∧ σ' = σ1) (f_Sf_init v0 σ) (q_G (q_rf fo) d m_Sf_init o σ' 0 [some (.ref v0)] [] σ) := by
  unfold f_Sf_init
  refine J_ma fun σ1 a2 hσ1 ha2 => ?_
  refine J_bind fun σ3 hσ3 => ?_
  refine J_ma fun σ4 a5 hσ4 ha5 => ?_
  refine J_bind fun σ6 hσ6 => ?_
  refine J_ma fun σ7 a8 hσ7 ha8 => ?_
  refine J_bind fun σ9 hσ9 => ?_
  refine J_ma fun σ10 a11 hσ10 ha11 => ?_
  refine J_bind fun σ12 hσ12 => ?_
  refine J_ma fun σ13 a14 hσ13 ha14 => ?_
  refine J_bind fun σ15 hσ15 => ?_
  refine J_ma fun σ16 a17 hσ16 ha17 => ?_
  refine J_bind fun σ18 hσ18 => ?_
  exact J_some (fun h => j_aload_n rfl rfl (j_obj rfl rfl (j_aload_n rfl rfl (j_bipush (24 : Int32) rfl kb_24 (j_newk 24 (.int 0) rfl rfl rfl (by decide) (by decide) hσ1 ha2 (j_putf rfl rfl rfl rfl hσ3 (j_aload_n rfl rfl (j_bipush (24 : Int32) rfl kb_24 (j_newk 24 (.int 0) rfl rfl rfl (by decide) (by decide) hσ4 ha5 (j_putf rfl rfl rfl rfl hσ6 (j_aload_n rfl rfl (j_bipush (24 : Int32) rfl kb_24 (j_newk 24 (.int 0) rfl rfl rfl (by decide) (by decide) hσ7 ha8 (j_putf rfl rfl rfl rfl hσ9 (j_aload_n rfl rfl (j_bipush (24 : Int32) rfl kb_24 (j_newk 24 (.int 0) rfl rfl rfl (by decide) (by decide) hσ10 ha11 (j_putf rfl rfl rfl rfl hσ12 (j_aload_n rfl rfl (j_bipush (24 : Int32) rfl kb_24 (j_newrk 24 rfl (by decide) (by decide) hσ13 ha14 (j_putf rfl rfl rfl rfl hσ15 (j_aload_n rfl rfl (j_bipush (6 : Int32) rfl kb_6 (j_newk 6 (.int 0) rfl rfl rfl (by decide) (by decide) hσ16 ha17 (j_putf rfl rfl rfl rfl hσ18 (j_vret rfl rfl h)))))))))))))))))))))))))))
theorem t_Sf_init {fo : Option Nat} {d : Nat} (hd : 1 ≤ d) {v0 : Nat} {σ σ1 : q_H} {r : Unit} (h : f_Sf_init v0 σ = some (r, σ1)) : q_Rel (q_rf fo) q_Ms d 79 [.ref v0] σ (.inl none) σ1 := by
  obtain ⟨d, rfl⟩ : ∃ d1, d = d1 + 1 := ⟨d - 1, by omega⟩
  exact q_Rel.of rfl rfl (b_Sf_init hd _ σ _ _ h ⟨rfl, rfl⟩)

set_option maxRecDepth 100000 in
theorem b_Sf_tell {fo : Option Nat} {d : Nat} (hd : 1 ≤ d + 1) {o : q_O} {σ' : q_H} (v0 : Nat) (v1 : Int32) (v2 : Int32) (v3 : Int32) (σ : q_H) : q_J (fun (r : Unit) (σ1 : q_H) => o = .inl none ∧ σ' = σ1) (f_Sf_tell v0 v1 v2 v3 σ) (q_G (q_rf fo) d m_Sf_tell o σ' 0 [some (.ref v0), some (.int v1), some (.int v2), some (.int v3)] [] σ) := by
  unfold f_Sf_tell
  refine J_bind fun x1 hx1 => ?_
  refine J_bind fun σ2 hσ2 => ?_
  refine J_bind fun x3 hx3 => ?_
  refine J_bind fun σ4 hσ4 => ?_
  refine J_bind fun x5 hx5 => ?_
  refine J_bind fun σ6 hσ6 => ?_
  refine J_bind fun x7 hx7 => ?_
  refine J_bind fun σ8 hσ8 => ?_
  refine J_bind fun x9 hx9 => ?_
  refine J_bind fun σ10 hσ10 => ?_
  exact J_some (fun h => j_aload_n rfl rfl (j_gfr rfl hx1 (j_iload_n rfl rfl (j_iconst (1 : Int32) rfl k32_1 (j_bas rfl (by decide) hσ2 (j_aload_n rfl rfl (j_gfr rfl hx3 (j_iload_n rfl rfl (j_iload_n rfl rfl (j_ias rfl hσ4 (j_aload_n rfl rfl (j_gfr rfl hx5 (j_iload_n rfl rfl (j_iload_n rfl rfl (j_ias rfl hσ6 (j_aload_n rfl rfl (j_gfr rfl hx7 (j_iload_n rfl rfl (j_iconst (2 : Int32) rfl k32_2 (j_ias rfl hσ8 (j_aload_n rfl rfl (j_gfr rfl hx9 (j_iload_n rfl rfl (j_null rfl (j_aas rfl (Or.inl ⟨rfl, rfl⟩) (Or.inl rfl) hσ10 (j_vret rfl rfl h))))))))))))))))))))))))))
theorem t_Sf_tell {fo : Option Nat} {d : Nat} (hd : 1 ≤ d) {v0 : Nat} {v1 : Int32} {v2 : Int32} {v3 : Int32} {σ σ1 : q_H} {r : Unit} (h : f_Sf_tell v0 v1 v2 v3 σ = some (r, σ1)) : q_Rel (q_rf fo) q_Ms d 80 [.ref v0, .int v1, .int v2, .int v3] σ (.inl none) σ1 := by
  obtain ⟨d, rfl⟩ : ∃ d1, d = d1 + 1 := ⟨d - 1, by omega⟩
  exact q_Rel.of rfl rfl (b_Sf_tell hd _ _ _ _ σ _ _ h ⟨rfl, rfl⟩)

set_option maxRecDepth 100000 in
theorem b_Sf_yearOf {fo : Option Nat} {d : Nat} (hd : 1 ≤ d + 1) {o : q_O} {σ' : q_H} (v0 : Nat) (v1 : Int32) (σ : q_H) : q_J (fun (r : Int32) (σ1 : q_H) => o = .inl (some (.int r)) ∧ σ' = σ1) (f_Sf_yearOf v0 v1 σ) (q_G (q_rf fo) d m_Sf_yearOf o σ' 0 [some (.ref v0), some (.int v1)] [] σ) := by
  unfold f_Sf_yearOf
  refine J_bind fun x1 hx1 => ?_
  refine J_bind fun x2 hx2 => ?_
  exact J_some (fun h => j_bipush (14 : Int32) rfl kb_14 (j_aload_n rfl rfl (j_gfr rfl hx1 (j_iload_n rfl rfl (j_ial rfl hx2 (j_imul rfl (j_iret rfl rfl h)))))))
theorem t_Sf_yearOf {fo : Option Nat} {d : Nat} (hd : 1 ≤ d) {v0 : Nat} {v1 : Int32} {σ σ1 : q_H} {r : Int32} (h : f_Sf_yearOf v0 v1 σ = some (r, σ1)) : q_Rel (q_rf fo) q_Ms d 90 [.ref v0, .int v1] σ (.inl (some (.int r))) σ1 := by
  obtain ⟨d, rfl⟩ : ∃ d1, d = d1 + 1 := ⟨d - 1, by omega⟩
  exact q_Rel.of rfl rfl (b_Sf_yearOf hd _ _ σ _ _ h ⟨rfl, rfl⟩)

set_option maxRecDepth 100000 in
theorem l_Sf_copyFrom_L2 {fo : Option Nat} {d : Nat} (hd : 1 ≤ d + 1) {o : q_O} {σ' : q_H} {E : (Unit) → q_H → Prop} (v0 : Nat) (v1 : Nat) (hX : ∀ (t : Unit) σ1, E (t) σ1 → q_G (q_rf fo) d m_Sf_copyFrom o σ' 74 [some (.ref v0), some (.ref v1), none] [] σ1)  : ∀ (n : Nat) (v2 : Int32) (σ : q_H), q_J E (f_Sf_copyFrom_L2 v0 v1 n v2 σ) (q_G (q_rf fo) d m_Sf_copyFrom o σ' 2 [some (.ref v0), some (.ref v1), some (.int v2)] [] σ)
  | 0, v2, σ => J_none
  | n + 1, v2, σ => by
    unfold f_Sf_copyFrom_L2
    refine q_J.step (fun g => j_iload_n rfl rfl (j_bipush (24 : Int32) rfl kb_24 (g))) ?_
    refine J_ite (fun h1 => ?_) (fun h1 => ?_)
    · refine J_bind fun x2 hx2 => ?_
      refine J_bind fun x3 hx3 => ?_
      refine J_bind fun x4 hx4 => ?_
      refine q_J.step (fun g => j_icmp_f rfl (cc_ge_f h1) (j_aload_n rfl rfl (j_gfr rfl hx2 (j_iload_n rfl rfl (j_aload_n rfl rfl (j_gfr rfl hx3 (j_iload_n rfl rfl (j_bal rfl rfl hx4 (g))))))))) ?_
      refine J_ite (fun _ => J_none) (fun h6 => ?_)
      refine J_bind fun σ5 hσ5 => ?_
      refine J_bind fun x7 hx7 => ?_
      refine J_bind fun x8 hx8 => ?_
      refine J_bind fun x9 hx9 => ?_
      refine J_bind fun σ10 hσ10 => ?_
      refine J_bind fun x11 hx11 => ?_
      refine J_bind fun x12 hx12 => ?_
      refine J_bind fun x13 hx13 => ?_
      refine J_bind fun σ14 hσ14 => ?_
      refine J_bind fun x15 hx15 => ?_
      refine J_bind fun x16 hx16 => ?_
      refine J_bind fun x17 hx17 => ?_
      refine J_bind fun σ18 hσ18 => ?_
      refine J_bind fun x19 hx19 => ?_
      refine J_bind fun x20 hx20 => ?_
      refine J_bind fun x21 hx21 => ?_
      refine J_bind fun w23 hw23 => ?_
      refine J_bind fun σ22 hσ22 => ?_
      exact q_J.step (fun g => j_bas rfl (Decidable.not_not.mp h6) hσ5 (j_aload_n rfl rfl (j_gfr rfl hx7 (j_iload_n rfl rfl (j_aload_n rfl rfl (j_gfr rfl hx8 (j_iload_n rfl rfl (j_ial rfl hx9 (j_ias rfl hσ10 (j_aload_n rfl rfl (j_gfr rfl hx11 (j_iload_n rfl rfl (j_aload_n rfl rfl (j_gfr rfl hx12 (j_iload_n rfl rfl (j_ial rfl hx13 (j_ias rfl hσ14 (j_aload_n rfl rfl (j_gfr rfl hx15 (j_iload_n rfl rfl (j_aload_n rfl rfl (j_gfr rfl hx16 (j_iload_n rfl rfl (j_ial rfl hx17 (j_ias rfl hσ18 (j_aload_n rfl rfl (j_gfr rfl hx19 (j_iload_n rfl rfl (j_aload_n rfl rfl (j_gfr rfl hx20 (j_iload_n rfl rfl (j_aalO rfl rfl hx21 (j_aas rfl (Or.inl ⟨rfl, rfl⟩) (q_obo_some hw23) hσ22 (j_iinc [some (.ref v0), some (.ref v1), some (.int (v2 + (1 : Int32)))] (v2 + (1 : Int32)) rfl rfl (by rw [k32_1]) (Or.inr rfl) rfl (j_goto rfl (g)))))))))))))))))))))))))))))))))))) (l_Sf_copyFrom_L2 hd v0 v1 hX n (v2 + (1 : Int32)) σ22)
    exact J_some (fun h => j_icmp_t rfl (cc_ge_t h1) (j_weak (l := [some (.ref v0), some (.ref v1), none]) (And.intro (Or.inr rfl) (And.intro (Or.inr rfl) (And.intro (Or.inl rfl) True.intro))) (hX _ _ h)))

set_option maxRecDepth 100000 in
theorem l_Sf_copyFrom_L76 {fo : Option Nat} {d : Nat} (hd : 1 ≤ d + 1) {o : q_O} {σ' : q_H} {E : (Unit) → q_H → Prop} (v0 : Nat) (v1 : Nat) (hX : ∀ (t : Unit) σ1, E (t) σ1 → q_G (q_rf fo) d m_Sf_copyFrom o σ' 100 [none, none, none] [] σ1)  : ∀ (n : Nat) (v2 : Int32) (σ : q_H), q_J E (f_Sf_copyFrom_L76 v0 v1 n v2 σ) (q_G (q_rf fo) d m_Sf_copyFrom o σ' 76 [some (.ref v0), some (.ref v1), some (.int v2)] [] σ)
  | 0, v2, σ => J_none
  | n + 1, v2, σ => by
    unfold f_Sf_copyFrom_L76
    refine q_J.step (fun g => j_iload_n rfl rfl (j_bipush (6 : Int32) rfl kb_6 (g))) ?_
    refine J_ite (fun h1 => ?_) (fun h1 => ?_)
    · refine J_bind fun x2 hx2 => ?_
      refine J_bind fun x3 hx3 => ?_
      refine J_bind fun x4 hx4 => ?_
      refine J_bind fun σ5 hσ5 => ?_
      exact q_J.step (fun g => j_icmp_f rfl (cc_ge_f h1) (j_aload_n rfl rfl (j_gfr rfl hx2 (j_iload_n rfl rfl (j_aload_n rfl rfl (j_gfr rfl hx3 (j_iload_n rfl rfl (j_ial rfl hx4 (j_ias rfl hσ5 (j_iinc [some (.ref v0), some (.ref v1), some (.int (v2 + (1 : Int32)))] (v2 + (1 : Int32)) rfl rfl (by rw [k32_1]) (Or.inr rfl) rfl (j_goto rfl (g)))))))))))) (l_Sf_copyFrom_L76 hd v0 v1 hX n (v2 + (1 : Int32)) σ5)
    exact J_some (fun h => j_icmp_t rfl (cc_ge_t h1) (j_weak (l := [none, none, none]) (And.intro (Or.inl rfl) (And.intro (Or.inl rfl) (And.intro (Or.inl rfl) True.intro))) (hX _ _ h)))

set_option maxRecDepth 100000 in
theorem b_Sf_copyFrom {fo : Option Nat} {d : Nat} (hd : 1 ≤ d + 1) {o : q_O} {σ' : q_H} (v0 : Nat) (v1 : Nat) (σ : q_H) : q_J (fun (r : Unit) (σ1 : q_H) => o = .inl none ∧ σ' = σ1) (f_Sf_copyFrom v0 v1 σ) (q_G (q_rf fo) d m_Sf_copyFrom o σ' 0 [some (.ref v0), some (.ref v1), none] [] σ) := by
  unfold f_Sf_copyFrom
  refine J_sq (fun (t1 : Unit) (σ2 : q_H) => q_G (q_rf fo) d m_Sf_copyFrom o σ' 74 [some (.ref v0), some (.ref v1), none] [] σ2) (q_J.step (fun g => j_iconst (0 : Int32) rfl k32_0 (j_istore_n [some (.ref v0), some (.ref v1), some (.int (0 : Int32))] rfl rfl (Or.inr rfl) rfl (g))) (l_Sf_copyFrom_L2 hd v0 v1 (fun _ _ h => h) q_FU (0 : Int32) σ)) (fun t1 σ2 => ?_)
  refine J_sq (fun (t3 : Unit) (σ4 : q_H) => q_G (q_rf fo) d m_Sf_copyFrom o σ' 100 [none, none, none] [] σ4) (q_J.step (fun g => j_iconst (0 : Int32) rfl k32_0 (j_istore_n [some (.ref v0), some (.ref v1), some (.int (0 : Int32))] rfl rfl (Or.inr rfl) rfl (g))) (l_Sf_copyFrom_L76 hd v0 v1 (fun _ _ h => h) q_FU (0 : Int32) σ2)) (fun t3 σ4 => ?_)
  exact J_some (fun h => j_vret rfl rfl h)
theorem t_Sf_copyFrom {fo : Option Nat} {d : Nat} (hd : 1 ≤ d) {v0 : Nat} {v1 : Nat} {σ σ1 : q_H} {r : Unit} (h : f_Sf_copyFrom v0 v1 σ = some (r, σ1)) : q_Rel (q_rf fo) q_Ms d 92 [.ref v0, .ref v1] σ (.inl none) σ1 := by
  obtain ⟨d, rfl⟩ : ∃ d1, d = d1 + 1 := ⟨d - 1, by omega⟩
  exact q_Rel.of rfl rfl (b_Sf_copyFrom hd _ _ σ _ _ h ⟨rfl, rfl⟩)

set_option maxRecDepth 100000 in
theorem l_Sf_toldCount_L4 {fo : Option Nat} {d : Nat} (hd : 1 ≤ d + 1) {o : q_O} {σ' : q_H} {E : (Int32) → q_H → Prop} (v0 : Nat) (hX : ∀ (t : Int32) σ1, E (t) σ1 → q_G (q_rf fo) d m_Sf_toldCount o σ' 33 [none, some (.int t), none] [] σ1)  : ∀ (n : Nat) (v1 : Int32) (v2 : Int32) (σ : q_H), q_J E (f_Sf_toldCount_L4 v0 n v1 v2 σ) (q_G (q_rf fo) d m_Sf_toldCount o σ' 4 [some (.ref v0), some (.int v1), some (.int v2)] [] σ)
  | 0, v1, v2, σ => J_none
  | n + 1, v1, v2, σ => by
    unfold f_Sf_toldCount_L4
    refine q_J.step (fun g => j_iload_n rfl rfl (j_bipush (24 : Int32) rfl kb_24 (g))) ?_
    refine J_ite (fun h1 => ?_) (fun h1 => ?_)
    · refine J_bind fun x2 hx2 => ?_
      refine J_bind fun x3 hx3 => ?_
      refine q_J.step (fun g => j_icmp_f rfl (cc_ge_f h1) (j_iload_n rfl rfl (j_aload_n rfl rfl (j_gfr rfl hx2 (j_iload_n rfl rfl (j_bal rfl rfl hx3 (g))))))) ?_
      refine J_ite (fun h4 => ?_) (fun h4 => ?_)
      · exact q_J.step (fun g => j_if_t rfl (cc_eq_t h4) (j_iconst (0 : Int32) rfl k32_0 (j_iadd rfl (j_istore_n [some (.ref v0), some (.int (v1 + (0 : Int32))), some (.int v2)] rfl rfl (Or.inr rfl) rfl (j_iinc [some (.ref v0), some (.int (v1 + (0 : Int32))), some (.int (v2 + (1 : Int32)))] (v2 + (1 : Int32)) rfl rfl (by rw [k32_1]) (Or.inr rfl) rfl (j_goto rfl (g))))))) (l_Sf_toldCount_L4 hd v0 hX n (v1 + (0 : Int32)) (v2 + (1 : Int32)) σ)
      exact q_J.step (fun g => j_if_f rfl (cc_eq_f h4) (j_iconst (1 : Int32) rfl k32_1 (j_goto rfl (j_iadd rfl (j_istore_n [some (.ref v0), some (.int (v1 + (1 : Int32))), some (.int v2)] rfl rfl (Or.inr rfl) rfl (j_iinc [some (.ref v0), some (.int (v1 + (1 : Int32))), some (.int (v2 + (1 : Int32)))] (v2 + (1 : Int32)) rfl rfl (by rw [k32_1]) (Or.inr rfl) rfl (j_goto rfl (g)))))))) (l_Sf_toldCount_L4 hd v0 hX n (v1 + (1 : Int32)) (v2 + (1 : Int32)) σ)
    exact J_some (fun h => j_icmp_t rfl (cc_ge_t h1) (j_weak (l := [none, some (.int v1), none]) (And.intro (Or.inl rfl) (And.intro (Or.inr rfl) (And.intro (Or.inl rfl) True.intro))) (hX _ _ h)))

set_option maxRecDepth 100000 in
theorem b_Sf_toldCount {fo : Option Nat} {d : Nat} (hd : 1 ≤ d + 1) {o : q_O} {σ' : q_H} (v0 : Nat) (σ : q_H) : q_J (fun (r : Int32) (σ1 : q_H) => o = .inl (some (.int r)) ∧ σ' = σ1) (f_Sf_toldCount v0 σ) (q_G (q_rf fo) d m_Sf_toldCount o σ' 0 [some (.ref v0), none, none] [] σ) := by
  unfold f_Sf_toldCount
  refine J_sq (fun (t1 : Int32) (σ2 : q_H) => q_G (q_rf fo) d m_Sf_toldCount o σ' 33 [none, some (.int t1), none] [] σ2) (q_J.step (fun g => j_iconst (0 : Int32) rfl k32_0 (j_istore_n [some (.ref v0), some (.int (0 : Int32)), none] rfl rfl (Or.inr rfl) rfl (j_iconst (0 : Int32) rfl k32_0 (j_istore_n [some (.ref v0), some (.int (0 : Int32)), some (.int (0 : Int32))] rfl rfl (Or.inr rfl) rfl (g))))) (l_Sf_toldCount_L4 hd v0 (fun _ _ h => h) q_FU (0 : Int32) (0 : Int32) σ)) (fun t1 σ2 => ?_)
  exact J_some (fun h => j_iload_n rfl rfl (j_iret rfl rfl h))
theorem t_Sf_toldCount {fo : Option Nat} {d : Nat} (hd : 1 ≤ d) {v0 : Nat} {σ σ1 : q_H} {r : Int32} (h : f_Sf_toldCount v0 σ = some (r, σ1)) : q_Rel (q_rf fo) q_Ms d 93 [.ref v0] σ (.inl (some (.int r))) σ1 := by
  obtain ⟨d, rfl⟩ : ∃ d1, d = d1 + 1 := ⟨d - 1, by omega⟩
  exact q_Rel.of rfl rfl (b_Sf_toldCount hd _ σ _ _ h ⟨rfl, rfl⟩)

set_option maxRecDepth 100000 in
theorem l_Sf_readCount_L4 {fo : Option Nat} {d : Nat} (hd : 1 ≤ d + 1) {o : q_O} {σ' : q_H} {E : (Int32) → q_H → Prop} (v0 : Nat) (hX : ∀ (t : Int32) σ1, E (t) σ1 → q_G (q_rf fo) d m_Sf_readCount o σ' 33 [none, some (.int t), none] [] σ1)  : ∀ (n : Nat) (v1 : Int32) (v2 : Int32) (σ : q_H), q_J E (f_Sf_readCount_L4 v0 n v1 v2 σ) (q_G (q_rf fo) d m_Sf_readCount o σ' 4 [some (.ref v0), some (.int v1), some (.int v2)] [] σ)
  | 0, v1, v2, σ => J_none
  | n + 1, v1, v2, σ => by
    unfold f_Sf_readCount_L4
    refine q_J.step (fun g => j_iload_n rfl rfl (j_bipush (24 : Int32) rfl kb_24 (g))) ?_
    refine J_ite (fun h1 => ?_) (fun h1 => ?_)
    · refine J_bind fun x2 hx2 => ?_
      refine J_bind fun x3 hx3 => ?_
      refine q_J.step (fun g => j_icmp_f rfl (cc_ge_f h1) (j_iload_n rfl rfl (j_aload_n rfl rfl (j_gfr rfl hx2 (j_iload_n rfl rfl (j_aalO rfl rfl hx3 (g))))))) ?_
      cases ha4 : x3 with
      | none =>
        try subst ha4
        exact q_J.step (fun g => j_nul_t rfl (j_iconst (0 : Int32) rfl k32_0 (j_iadd rfl (j_istore_n [some (.ref v0), some (.int (v1 + (0 : Int32))), some (.int v2)] rfl rfl (Or.inr rfl) rfl (j_iinc [some (.ref v0), some (.int (v1 + (0 : Int32))), some (.int (v2 + (1 : Int32)))] (v2 + (1 : Int32)) rfl rfl (by rw [k32_1]) (Or.inr rfl) rfl (j_goto rfl (g))))))) (l_Sf_readCount_L4 hd v0 hX n (v1 + (0 : Int32)) (v2 + (1 : Int32)) σ)
      | some a4 =>
        try subst ha4
        exact q_J.step (fun g => j_nul_f rfl (j_iconst (1 : Int32) rfl k32_1 (j_goto rfl (j_iadd rfl (j_istore_n [some (.ref v0), some (.int (v1 + (1 : Int32))), some (.int v2)] rfl rfl (Or.inr rfl) rfl (j_iinc [some (.ref v0), some (.int (v1 + (1 : Int32))), some (.int (v2 + (1 : Int32)))] (v2 + (1 : Int32)) rfl rfl (by rw [k32_1]) (Or.inr rfl) rfl (j_goto rfl (g)))))))) (l_Sf_readCount_L4 hd v0 hX n (v1 + (1 : Int32)) (v2 + (1 : Int32)) σ)
    exact J_some (fun h => j_icmp_t rfl (cc_ge_t h1) (j_weak (l := [none, some (.int v1), none]) (And.intro (Or.inl rfl) (And.intro (Or.inr rfl) (And.intro (Or.inl rfl) True.intro))) (hX _ _ h)))

set_option maxRecDepth 100000 in
theorem b_Sf_readCount {fo : Option Nat} {d : Nat} (hd : 1 ≤ d + 1) {o : q_O} {σ' : q_H} (v0 : Nat) (σ : q_H) : q_J (fun (r : Int32) (σ1 : q_H) => o = .inl (some (.int r)) ∧ σ' = σ1) (f_Sf_readCount v0 σ) (q_G (q_rf fo) d m_Sf_readCount o σ' 0 [some (.ref v0), none, none] [] σ) := by
  unfold f_Sf_readCount
  refine J_sq (fun (t1 : Int32) (σ2 : q_H) => q_G (q_rf fo) d m_Sf_readCount o σ' 33 [none, some (.int t1), none] [] σ2) (q_J.step (fun g => j_iconst (0 : Int32) rfl k32_0 (j_istore_n [some (.ref v0), some (.int (0 : Int32)), none] rfl rfl (Or.inr rfl) rfl (j_iconst (0 : Int32) rfl k32_0 (j_istore_n [some (.ref v0), some (.int (0 : Int32)), some (.int (0 : Int32))] rfl rfl (Or.inr rfl) rfl (g))))) (l_Sf_readCount_L4 hd v0 (fun _ _ h => h) q_FU (0 : Int32) (0 : Int32) σ)) (fun t1 σ2 => ?_)
  exact J_some (fun h => j_iload_n rfl rfl (j_iret rfl rfl h))
theorem t_Sf_readCount {fo : Option Nat} {d : Nat} (hd : 1 ≤ d) {v0 : Nat} {σ σ1 : q_H} {r : Int32} (h : f_Sf_readCount v0 σ = some (r, σ1)) : q_Rel (q_rf fo) q_Ms d 94 [.ref v0] σ (.inl (some (.int r))) σ1 := by
  obtain ⟨d, rfl⟩ : ∃ d1, d = d1 + 1 := ⟨d - 1, by omega⟩
  exact q_Rel.of rfl rfl (b_Sf_readCount hd _ σ _ _ h ⟨rfl, rfl⟩)

set_option maxRecDepth 100000 in
theorem l_Sf_lineCount_L4 {fo : Option Nat} {d : Nat} (hd : 1 ≤ d + 1) {o : q_O} {σ' : q_H} {E : (Int32) → q_H → Prop} (v0 : Nat) (hX : ∀ (t : Int32) σ1, E (t) σ1 → q_G (q_rf fo) d m_Sf_lineCount o σ' 38 [none, some (.int t), none, none] [] σ1)  : ∀ (n : Nat) (v1 : Int32) (v2 : Int32) (σ : q_H), q_J E (f_Sf_lineCount_L4 v0 n v1 v2 σ) (q_G (q_rf fo) d m_Sf_lineCount o σ' 4 [some (.ref v0), some (.int v1), some (.int v2), none] [] σ)
  | 0, v1, v2, σ => J_none
  | n + 1, v1, v2, σ => by
    unfold f_Sf_lineCount_L4
    refine q_J.step (fun g => j_iload_n rfl rfl (j_bipush (24 : Int32) rfl kb_24 (g))) ?_
    refine J_ite (fun h1 => ?_) (fun h1 => ?_)
    · refine J_bind fun x2 hx2 => ?_
      refine J_bind fun x3 hx3 => ?_
      refine q_J.step (fun g => j_icmp_f rfl (cc_ge_f h1) (j_aload_n rfl rfl (j_gfr rfl hx2 (j_iload_n rfl rfl (j_aalO rfl rfl hx3 (j_astore_nO (x := x3) [some (.ref v0), some (.int v1), some (.int v2), some (q_rf x3)] rfl rfl (Or.inr rfl) rfl (j_iload_n rfl rfl (j_aload_nO (x := x3) rfl rfl (g))))))))) ?_
      cases ha4 : x3 with
      | none =>
        try subst ha4
        exact q_J.step (fun g => j_nul_t rfl (j_iconst (0 : Int32) rfl k32_0 (j_iadd rfl (j_istore_n [some (.ref v0), some (.int (v1 + (0 : Int32))), some (.int v2), some (.null)] rfl rfl (Or.inr rfl) rfl (j_iinc [some (.ref v0), some (.int (v1 + (0 : Int32))), some (.int (v2 + (1 : Int32))), some (.null)] (v2 + (1 : Int32)) rfl rfl (by rw [k32_1]) (Or.inr rfl) rfl (j_goto rfl (j_weak (l := [some (.ref v0), some (.int (v1 + (0 : Int32))), some (.int (v2 + (1 : Int32))), none]) (And.intro (Or.inr rfl) (And.intro (Or.inr rfl) (And.intro (Or.inr rfl) (And.intro (Or.inl rfl) True.intro)))) (g)))))))) (l_Sf_lineCount_L4 hd v0 hX n (v1 + (0 : Int32)) (v2 + (1 : Int32)) σ)
      | some a4 =>
        try subst ha4
        refine J_bind fun x5 hx5 => ?_
        exact q_J.step (fun g => j_nul_f rfl (j_aload_n rfl rfl (j_gfi rfl hx5 (j_goto rfl (j_iadd rfl (j_istore_n [some (.ref v0), some (.int (v1 + x5)), some (.int v2), some (.ref a4)] rfl rfl (Or.inr rfl) rfl (j_iinc [some (.ref v0), some (.int (v1 + x5)), some (.int (v2 + (1 : Int32))), some (.ref a4)] (v2 + (1 : Int32)) rfl rfl (by rw [k32_1]) (Or.inr rfl) rfl (j_goto rfl (j_weak (l := [some (.ref v0), some (.int (v1 + x5)), some (.int (v2 + (1 : Int32))), none]) (And.intro (Or.inr rfl) (And.intro (Or.inr rfl) (And.intro (Or.inr rfl) (And.intro (Or.inl rfl) True.intro)))) (g)))))))))) (l_Sf_lineCount_L4 hd v0 hX n (v1 + x5) (v2 + (1 : Int32)) σ)
    exact J_some (fun h => j_icmp_t rfl (cc_ge_t h1) (j_weak (l := [none, some (.int v1), none, none]) (And.intro (Or.inl rfl) (And.intro (Or.inr rfl) (And.intro (Or.inl rfl) (And.intro (Or.inr rfl) True.intro)))) (hX _ _ h)))

set_option maxRecDepth 100000 in
theorem b_Sf_lineCount {fo : Option Nat} {d : Nat} (hd : 1 ≤ d + 1) {o : q_O} {σ' : q_H} (v0 : Nat) (σ : q_H) : q_J (fun (r : Int32) (σ1 : q_H) => o = .inl (some (.int r)) ∧ σ' = σ1) (f_Sf_lineCount v0 σ) (q_G (q_rf fo) d m_Sf_lineCount o σ' 0 [some (.ref v0), none, none, none] [] σ) := by
  unfold f_Sf_lineCount
  refine J_sq (fun (t1 : Int32) (σ2 : q_H) => q_G (q_rf fo) d m_Sf_lineCount o σ' 38 [none, some (.int t1), none, none] [] σ2) (q_J.step (fun g => j_iconst (0 : Int32) rfl k32_0 (j_istore_n [some (.ref v0), some (.int (0 : Int32)), none, none] rfl rfl (Or.inr rfl) rfl (j_iconst (0 : Int32) rfl k32_0 (j_istore_n [some (.ref v0), some (.int (0 : Int32)), some (.int (0 : Int32)), none] rfl rfl (Or.inr rfl) rfl (g))))) (l_Sf_lineCount_L4 hd v0 (fun _ _ h => h) q_FU (0 : Int32) (0 : Int32) σ)) (fun t1 σ2 => ?_)
  exact J_some (fun h => j_iload_n rfl rfl (j_iret rfl rfl h))
theorem t_Sf_lineCount {fo : Option Nat} {d : Nat} (hd : 1 ≤ d) {v0 : Nat} {σ σ1 : q_H} {r : Int32} (h : f_Sf_lineCount v0 σ = some (r, σ1)) : q_Rel (q_rf fo) q_Ms d 95 [.ref v0] σ (.inl (some (.int r))) σ1 := by
  obtain ⟨d, rfl⟩ : ∃ d1, d = d1 + 1 := ⟨d - 1, by omega⟩
  exact q_Rel.of rfl rfl (b_Sf_lineCount hd _ σ _ _ h ⟨rfl, rfl⟩)

set_option maxRecDepth 100000 in
theorem b_Ho_init {fo : Option Nat} {d : Nat} (hd : 1 ≤ d + 1) {o : q_O} {σ' : q_H} (v0 : Nat) (σ : q_H) : q_J (fun (r : Unit) (σ1 : q_H) => o = .inl none ∧ σ' = σ1) (f_Ho_init v0 σ) (q_G (q_rf fo) d m_Ho_init o σ' 0 [some (.ref v0)] [] σ) := by
  unfold f_Ho_init
  refine J_bind fun σ1 hσ1 => ?_
  refine J_ma fun σ2 a3 hσ2 ha3 => ?_
  refine J_bind fun σ4 hσ4 => ?_
  refine J_ma fun σ5 a6 hσ5 ha6 => ?_
  refine J_bind fun σ7 hσ7 => ?_
  refine J_ma fun σ8 a9 hσ8 ha9 => ?_
  refine J_bind fun σ10 hσ10 => ?_
  refine J_ma fun σ11 a12 hσ11 ha12 => ?_
  refine J_bind fun σ13 hσ13 => ?_
  exact J_some (fun h => j_aload_n rfl rfl (j_obj rfl rfl (j_aload_n rfl rfl (j_iconst (1 : Int32) rfl k32_1 (j_putf rfl rfl (by decide) rfl hσ1 (j_aload_n rfl rfl (j_bipush (24 : Int32) rfl kb_24 (j_newk 24 (.int 0) rfl rfl rfl (by decide) (by decide) hσ2 ha3 (j_putf rfl rfl rfl rfl hσ4 (j_aload_n rfl rfl (j_sipush (288 : Int32) rfl ks_288 (j_newk 288 (.int 0) rfl rfl rfl (by decide) (by decide) hσ5 ha6 (j_putf rfl rfl rfl rfl hσ7 (j_aload_n rfl rfl (j_sipush (288 : Int32) rfl ks_288 (j_newk 288 (.int 0) rfl rfl rfl (by decide) (by decide) hσ8 ha9 (j_putf rfl rfl rfl rfl hσ10 (j_aload_n rfl rfl (j_bipush (96 : Int32) rfl kb_96 (j_newk 96 (.int 0) rfl rfl rfl (by decide) (by decide) hσ11 ha12 (j_putf rfl rfl rfl rfl hσ13 (j_vret rfl rfl h))))))))))))))))))))))
theorem t_Ho_init {fo : Option Nat} {d : Nat} (hd : 1 ≤ d) {v0 : Nat} {σ σ1 : q_H} {r : Unit} (h : f_Ho_init v0 σ = some (r, σ1)) : q_Rel (q_rf fo) q_Ms d 96 [.ref v0] σ (.inl none) σ1 := by
  obtain ⟨d, rfl⟩ : ∃ d1, d = d1 + 1 := ⟨d - 1, by omega⟩
  exact q_Rel.of rfl rfl (b_Ho_init hd _ σ _ _ h ⟨rfl, rfl⟩)

set_option maxRecDepth 100000 in
theorem b_Ho_narrow {fo : Option Nat} {d : Nat} (hd : 1 ≤ d + 1) {o : q_O} {σ' : q_H} (v0 : Nat) (v1 : Int32) (v2 : Int32) (v3 : Int32) (σ : q_H) : q_J (fun (r : Unit) (σ1 : q_H) => o = .inl none ∧ σ' = σ1) (f_Ho_narrow v0 v1 v2 v3 σ) (q_G (q_rf fo) d m_Ho_narrow o σ' 0 [some (.ref v0), some (.int v1), some (.int v2), some (.int v3)] [] σ) := by
  unfold f_Ho_narrow
  refine J_bind fun x1 hx1 => ?_
  refine J_bind fun x2 hx2 => ?_
  refine J_bind fun x3 hx3 => ?_
  refine J_bind fun σ4 hσ4 => ?_
  refine J_bind fun x5 hx5 => ?_
  refine J_bind fun x6 hx6 => ?_
  refine J_bind fun x7 hx7 => ?_
  refine J_bind fun σ8 hσ8 => ?_
  exact J_some (fun h => j_aload_n rfl rfl (j_gfr rfl hx1 (j_iload_n rfl rfl (j_aload_n rfl rfl (j_gfr rfl hx2 (j_iload_n rfl rfl (j_ial rfl hx3 (j_iload_n rfl rfl (j_max rfl rfl (j_ias rfl hσ4 (j_aload_n rfl rfl (j_gfr rfl hx5 (j_iload_n rfl rfl (j_aload_n rfl rfl (j_gfr rfl hx6 (j_iload_n rfl rfl (j_ial rfl hx7 (j_iload_n rfl rfl (j_min rfl rfl (j_ias rfl hσ8 (j_vret rfl rfl h)))))))))))))))))))))
theorem t_Ho_narrow {fo : Option Nat} {d : Nat} (hd : 1 ≤ d) {v0 : Nat} {v1 : Int32} {v2 : Int32} {v3 : Int32} {σ σ1 : q_H} {r : Unit} (h : f_Ho_narrow v0 v1 v2 v3 σ = some (r, σ1)) : q_Rel (q_rf fo) q_Ms d 100 [.ref v0, .int v1, .int v2, .int v3] σ (.inl none) σ1 := by
  obtain ⟨d, rfl⟩ : ∃ d1, d = d1 + 1 := ⟨d - 1, by omega⟩
  exact q_Rel.of rfl rfl (b_Ho_narrow hd _ _ _ _ σ _ _ h ⟨rfl, rfl⟩)

set_option maxRecDepth 100000 in
theorem l_Ho_unite_L18 {fo : Option Nat} {d : Nat} (hd : 1 ≤ d + 1) {o : q_O} {σ' : q_H} {E : (Unit) → q_H → Prop} (v0 : Nat) (v3 : Int32) (v4 : Int32) (hX : ∀ (t : Unit) σ1, E (t) σ1 → q_G (q_rf fo) d m_Ho_unite o σ' 51 [none, none, none, none, none, none] [] σ1)  : ∀ (n : Nat) (v5 : Int32) (σ : q_H), q_J E (f_Ho_unite_L18 v0 v3 v4 n v5 σ) (q_G (q_rf fo) d m_Ho_unite o σ' 18 [some (.ref v0), none, none, some (.int v3), some (.int v4), some (.int v5)] [] σ)
  | 0, v5, σ => J_none
  | n + 1, v5, σ => by
    unfold f_Ho_unite_L18
    refine q_J.step (fun g => j_iload rfl rfl (j_bipush (24 : Int32) rfl kb_24 (g))) ?_
    refine J_ite (fun h1 => ?_) (fun h1 => ?_)
    · refine J_bind fun x2 hx2 => ?_
      refine J_bind fun x3 hx3 => ?_
      refine q_J.step (fun g => j_icmp_f rfl (cc_ge_f h1) (j_aload_n rfl rfl (j_gfr rfl hx2 (j_iload rfl rfl (j_ial rfl hx3 (j_iload rfl rfl (g))))))) ?_
      refine J_ite (fun h4 => ?_) (fun h4 => ?_)
      · refine J_bind fun x5 hx5 => ?_
        refine J_bind fun σ6 hσ6 => ?_
        exact q_J.step (fun g => j_icmp_f rfl (cc_ne_f h4) (j_aload_n rfl rfl (j_gfr rfl hx5 (j_iload rfl rfl (j_iload_n rfl rfl (j_ias rfl hσ6 (j_iinc [some (.ref v0), none, none, some (.int v3), some (.int v4), some (.int (v5 + (1 : Int32)))] (v5 + (1 : Int32)) rfl rfl (by rw [k32_1]) (Or.inr rfl) rfl (j_goto rfl (g))))))))) (l_Ho_unite_L18 hd v0 v3 v4 hX n (v5 + (1 : Int32)) σ6)
      exact q_J.step (fun g => j_icmp_t rfl (cc_ne_t h4) (j_iinc [some (.ref v0), none, none, some (.int v3), some (.int v4), some (.int (v5 + (1 : Int32)))] (v5 + (1 : Int32)) rfl rfl (by rw [k32_1]) (Or.inr rfl) rfl (j_goto rfl (g)))) (l_Ho_unite_L18 hd v0 v3 v4 hX n (v5 + (1 : Int32)) σ)
    exact J_some (fun h => j_icmp_t rfl (cc_ge_t h1) (j_weak (l := [none, none, none, none, none, none]) (And.intro (Or.inl rfl) (And.intro (Or.inr rfl) (And.intro (Or.inr rfl) (And.intro (Or.inl rfl) (And.intro (Or.inl rfl) (And.intro (Or.inl rfl) True.intro)))))) (hX _ _ h)))

set_option maxRecDepth 100000 in
theorem b_Ho_unite {fo : Option Nat} {d : Nat} (hd : 1 ≤ d + 1) {o : q_O} {σ' : q_H} (v0 : Nat) (v1 : Int32) (v2 : Int32) (σ : q_H) : q_J (fun (r : Unit) (σ1 : q_H) => o = .inl none ∧ σ' = σ1) (f_Ho_unite v0 v1 v2 σ) (q_G (q_rf fo) d m_Ho_unite o σ' 0 [some (.ref v0), some (.int v1), some (.int v2), none, none, none] [] σ) := by
  unfold f_Ho_unite
  refine J_bind fun x1 hx1 => ?_
  refine J_bind fun x2 hx2 => ?_
  refine J_bind fun x3 hx3 => ?_
  refine J_bind fun x4 hx4 => ?_
  refine J_sq (fun (t5 : Unit) (σ6 : q_H) => q_G (q_rf fo) d m_Ho_unite o σ' 51 [none, none, none, none, none, none] [] σ6) (q_J.step (fun g => j_aload_n rfl rfl (j_gfr rfl hx1 (j_iload_n rfl rfl (j_ial rfl hx2 (j_istore_n [some (.ref v0), some (.int v1), some (.int v2), some (.int x2), none, none] rfl rfl (Or.inr rfl) rfl (j_aload_n rfl rfl (j_gfr rfl hx3 (j_iload_n rfl rfl (j_ial rfl hx4 (j_istore [some (.ref v0), some (.int v1), some (.int v2), some (.int x2), some (.int x4), none] rfl rfl (Or.inr rfl) rfl (j_iconst (0 : Int32) rfl k32_0 (j_istore [some (.ref v0), some (.int v1), some (.int v2), some (.int x2), some (.int x4), some (.int (0 : Int32))] rfl rfl (Or.inr rfl) rfl (j_weak (l := [some (.ref v0), none, none, some (.int x2), some (.int x4), some (.int (0 : Int32))]) (And.intro (Or.inr rfl) (And.intro (Or.inl rfl) (And.intro (Or.inl rfl) (And.intro (Or.inr rfl) (And.intro (Or.inr rfl) (And.intro (Or.inr rfl) True.intro)))))) (g)))))))))))))) (l_Ho_unite_L18 hd v0 x2 x4 (fun _ _ h => h) q_FU (0 : Int32) σ)) (fun t5 σ6 => ?_)
  exact J_some (fun h => j_vret rfl rfl h)
theorem t_Ho_unite {fo : Option Nat} {d : Nat} (hd : 1 ≤ d) {v0 : Nat} {v1 : Int32} {v2 : Int32} {σ σ1 : q_H} {r : Unit} (h : f_Ho_unite v0 v1 v2 σ = some (r, σ1)) : q_Rel (q_rf fo) q_Ms d 101 [.ref v0, .int v1, .int v2] σ (.inl none) σ1 := by
  obtain ⟨d, rfl⟩ : ∃ d1, d = d1 + 1 := ⟨d - 1, by omega⟩
  exact q_Rel.of rfl rfl (b_Ho_unite hd _ _ _ σ _ _ h ⟨rfl, rfl⟩)

set_option maxRecDepth 100000 in
theorem b_Ho_leftOf {fo : Option Nat} {d : Nat} (hd : 1 ≤ d + 1) {o : q_O} {σ' : q_H} (v0 : Nat) (v1 : Int32) (v2 : Int32) (v3 : Int32) (σ : q_H) : q_J (fun (r : Int32) (σ1 : q_H) => o = .inl (some (.int r)) ∧ σ' = σ1) (f_Ho_leftOf v0 v1 v2 v3 σ) (q_G (q_rf fo) d m_Ho_leftOf o σ' 0 [some (.ref v0), some (.int v1), some (.int v2), some (.int v3)] [] σ) := by
  unfold f_Ho_leftOf
  refine J_bind fun x1 hx1 => ?_
  refine J_bind fun x2 hx2 => ?_
  exact J_some (fun h => j_aload_n rfl rfl (j_gfr rfl hx1 (j_iload_n rfl rfl (j_iconst (4 : Int32) rfl k32_4 (j_imul rfl (j_iload_n rfl rfl (j_iconst (2 : Int32) rfl k32_2 (j_imul rfl (j_iadd rfl (j_iload_n rfl rfl (j_iadd rfl (j_ial rfl hx2 (j_iret rfl rfl h)))))))))))))
theorem t_Ho_leftOf {fo : Option Nat} {d : Nat} (hd : 1 ≤ d) {v0 : Nat} {v1 : Int32} {v2 : Int32} {v3 : Int32} {σ σ1 : q_H} {r : Int32} (h : f_Ho_leftOf v0 v1 v2 v3 σ = some (r, σ1)) : q_Rel (q_rf fo) q_Ms d 103 [.ref v0, .int v1, .int v2, .int v3] σ (.inl (some (.int r))) σ1 := by
  obtain ⟨d, rfl⟩ : ∃ d1, d = d1 + 1 := ⟨d - 1, by omega⟩
  exact q_Rel.of rfl rfl (b_Ho_leftOf hd _ _ _ _ σ _ _ h ⟨rfl, rfl⟩)

set_option maxRecDepth 100000 in
theorem b_Rs_isFrom {fo : Option Nat} {d : Nat} (hd : 1 ≤ d + 1) {o : q_O} {σ' : q_H} (v0 : Int32) (v1 : Int32) (v2 : Int32) (σ : q_H) : q_J (fun (r : Int32) (σ1 : q_H) => o = .inl (some (.int r)) ∧ σ' = σ1) (f_Rs_isFrom v0 v1 v2 σ) (q_G (q_rf fo) d m_Rs_isFrom o σ' 0 [some (.int v0), some (.int v1), some (.int v2)] [] σ) := by
  unfold f_Rs_isFrom
  refine q_J.step (fun g => j_iload_n rfl rfl (j_iload_n rfl rfl (g))) ?_
  refine J_ite (fun h1 => ?_) (fun h1 => ?_)
  · exact J_some (fun h => j_icmp_t rfl (cc_gt_t h1) (j_iconst (0 : Int32) rfl k32_0 (j_iret rfl (q_zr (Or.inl rfl)) h)))
  refine q_J.step (fun g => j_icmp_f rfl (cc_gt_f h1) (j_iload_n rfl rfl (j_iload_n rfl rfl (g)))) ?_
  refine J_ite (fun h2 => ?_) (fun h2 => ?_)
  · exact J_some (fun h => j_icmp_t rfl (cc_gt_t h2) (j_iconst (0 : Int32) rfl k32_0 (j_iret rfl (q_zr (Or.inl rfl)) h)))
  exact J_some (fun h => j_icmp_f rfl (cc_gt_f h2) (j_iconst (1 : Int32) rfl k32_1 (j_goto rfl (j_iret rfl (q_zr (Or.inr rfl)) h))))
theorem t_Rs_isFrom {fo : Option Nat} {d : Nat} (hd : 1 ≤ d) {v0 : Int32} {v1 : Int32} {v2 : Int32} {σ σ1 : q_H} {r : Int32} (h : f_Rs_isFrom v0 v1 v2 σ = some (r, σ1)) : q_Rel (q_rf fo) q_Ms d 107 [.int v0, .int v1, .int v2] σ (.inl (some (.int r))) σ1 := by
  obtain ⟨d, rfl⟩ : ∃ d1, d = d1 + 1 := ⟨d - 1, by omega⟩
  exact q_Rel.of rfl rfl (b_Rs_isFrom hd _ _ _ σ _ _ h ⟨rfl, rfl⟩)

set_option maxRecDepth 100000 in
theorem b_Rs_addReading {fo : Option Nat} {d : Nat} (hd : 1 ≤ d + 1) {o : q_O} {σ' : q_H} (v0 : Nat) (v1 : Int32) (v2 : Int32) (v3 : Int32) (σ : q_H) : q_J (fun (r : Int32) (σ1 : q_H) => o = .inl (some (.int r)) ∧ σ' = σ1) (f_Rs_addReading v0 v1 v2 v3 σ) (q_G (q_rf fo) d m_Rs_addReading o σ' 0 [some (.ref v0), some (.int v1), some (.int v2), some (.int v3)] [] σ) := by
  unfold f_Rs_addReading
  refine q_J.step (fun g => j_iload_n rfl rfl (g)) ?_
  refine J_ite (fun h1 => ?_) (fun h1 => ?_)
  · refine J_bind fun x2 hx2 => ?_
    refine J_bind fun x3 hx3 => ?_
    refine q_J.step (fun g => j_if_f rfl (cc_le_f h1) (j_iload_n rfl rfl (j_aload_n rfl rfl (j_gfr rfl hx2 (j_alen rfl hx3 (g)))))) ?_
    refine J_ite (fun h4 => ?_) (fun h4 => ?_)
    · refine J_bind fun x5 hx5 => ?_
      refine J_bind fun σ6 hσ6 => ?_
      refine J_bind fun x7 hx7 => ?_
      refine J_bind fun σ8 hσ8 => ?_
      exact J_some (fun h => j_icmp_t rfl (cc_lt_t h4) (j_aload_n rfl rfl (j_gfr rfl hx5 (j_iload_n rfl rfl (j_iload_n rfl rfl (j_ias rfl hσ6 (j_aload_n rfl rfl (j_gfr rfl hx7 (j_iload_n rfl rfl (j_iload_n rfl rfl (j_ias rfl hσ8 (j_iload_n rfl rfl (j_iconst (1 : Int32) rfl k32_1 (j_iadd rfl (j_iret rfl rfl h)))))))))))))))
    exact J_some (fun h => j_icmp_f rfl (cc_lt_f h4) (j_iload_n rfl rfl (j_iret rfl rfl h)))
  exact J_some (fun h => j_if_t rfl (cc_le_t h1) (j_iload_n rfl rfl (j_iret rfl rfl h)))
theorem t_Rs_addReading {fo : Option Nat} {d : Nat} (hd : 1 ≤ d) {v0 : Nat} {v1 : Int32} {v2 : Int32} {v3 : Int32} {σ σ1 : q_H} {r : Int32} (h : f_Rs_addReading v0 v1 v2 v3 σ = some (r, σ1)) : q_Rel (q_rf fo) q_Ms d 156 [.ref v0, .int v1, .int v2, .int v3] σ (.inl (some (.int r))) σ1 := by
  obtain ⟨d, rfl⟩ : ∃ d1, d = d1 + 1 := ⟨d - 1, by omega⟩
  exact q_Rel.of rfl rfl (b_Rs_addReading hd _ _ _ _ σ _ _ h ⟨rfl, rfl⟩)

set_option maxRecDepth 100000 in
theorem l_Rs_findUtmost_L5 {fo : Option Nat} {d : Nat} (hd : 1 ≤ d + 1) {o : q_O} {σ' : q_H} {E : (Int32) → q_H → Prop} (v0 : Nat) (v1 : Int32) (v2 : Int32) (hX : ∀ (t : Int32) σ1, E (t) σ1 → q_G (q_rf fo) d m_Rs_findUtmost o σ' 68 [none, none, none, some (.int t), none, none] [] σ1)  : ∀ (n : Nat) (v3 : Int32) (v4 : Int32) (σ : q_H), q_J E (f_Rs_findUtmost_L5 v0 v1 v2 n v3 v4 σ) (q_G (q_rf fo) d m_Rs_findUtmost o σ' 5 [some (.ref v0), some (.int v1), some (.int v2), some (.int v3), some (.int v4), none] [] σ)
  | 0, v3, v4, σ => J_none
  | n + 1, v3, v4, σ => by
    unfold f_Rs_findUtmost_L5
    refine q_J.step (fun g => j_iload rfl rfl (j_iload_n rfl rfl (g))) ?_
    refine J_ite (fun h1 => ?_) (fun h1 => ?_)
    · refine J_bind fun x2 hx2 => ?_
      refine J_bind fun x3 hx3 => ?_
      refine J_bind fun x4 hx4 => ?_
      refine J_bind fun x5 hx5 => ?_
      refine J_bind fun x6 hx6 => ?_
      refine J_bind fun x7 hx7 => ?_
      refine J_bind fun x8 hx8 => ?_
      refine J_bind fun x9 hx9 => ?_
      refine q_J.step (fun g => j_icmp_f rfl (cc_ge_f h1) (j_aload_n rfl rfl (j_gfr rfl hx2 (j_iload rfl rfl (j_ial rfl hx3 (j_aload_n rfl rfl (j_gfr rfl hx4 (j_iload_n rfl rfl (j_ial rfl hx5 (j_imul rfl (j_aload_n rfl rfl (j_gfr rfl hx6 (j_iload_n rfl rfl (j_ial rfl hx7 (g))))))))))))))) ?_
      refine q_J.step (fun g => j_aload_n rfl rfl (j_gfr rfl hx8 (j_iload rfl rfl (j_ial rfl hx9 (j_imul rfl (j_isub rfl (j_istore [some (.ref v0), some (.int v1), some (.int v2), some (.int v3), some (.int v4), some (.int ((x3 * x5) - (x7 * x9)))] rfl rfl (Or.inr rfl) rfl (j_iload_n rfl rfl (g))))))))) ?_
      refine J_ite (fun h10 => ?_) (fun h10 => ?_)
      · refine q_J.step (fun g => j_if_t rfl (cc_eq_t h10) (j_iload rfl rfl (g))) ?_
        refine J_ite (fun h11 => ?_) (fun h11 => ?_)
        · exact q_J.step (fun g => j_if_f rfl (cc_ge_f h11) (j_iload rfl rfl (j_istore_n [some (.ref v0), some (.int v1), some (.int v2), some (.int v4), some (.int v4), some (.int ((x3 * x5) - (x7 * x9)))] rfl rfl (Or.inr rfl) rfl (j_iinc [some (.ref v0), some (.int v1), some (.int v2), some (.int v4), some (.int (v4 + (1 : Int32))), some (.int ((x3 * x5) - (x7 * x9)))] (v4 + (1 : Int32)) rfl rfl (by rw [k32_1]) (Or.inr rfl) rfl (j_goto rfl (j_weak (l := [some (.ref v0), some (.int v1), some (.int v2), some (.int v4), some (.int (v4 + (1 : Int32))), none]) (And.intro (Or.inr rfl) (And.intro (Or.inr rfl) (And.intro (Or.inr rfl) (And.intro (Or.inr rfl) (And.intro (Or.inr rfl) (And.intro (Or.inl rfl) True.intro)))))) (g))))))) (l_Rs_findUtmost_L5 hd v0 v1 v2 hX n v4 (v4 + (1 : Int32)) σ)
        exact q_J.step (fun g => j_if_t rfl (cc_ge_t h11) (j_iinc [some (.ref v0), some (.int v1), some (.int v2), some (.int v3), some (.int (v4 + (1 : Int32))), some (.int ((x3 * x5) - (x7 * x9)))] (v4 + (1 : Int32)) rfl rfl (by rw [k32_1]) (Or.inr rfl) rfl (j_goto rfl (j_weak (l := [some (.ref v0), some (.int v1), some (.int v2), some (.int v3), some (.int (v4 + (1 : Int32))), none]) (And.intro (Or.inr rfl) (And.intro (Or.inr rfl) (And.intro (Or.inr rfl) (And.intro (Or.inr rfl) (And.intro (Or.inr rfl) (And.intro (Or.inl rfl) True.intro)))))) (g))))) (l_Rs_findUtmost_L5 hd v0 v1 v2 hX n v3 (v4 + (1 : Int32)) σ)
      refine q_J.step (fun g => j_if_f rfl (cc_eq_f h10) (j_iload rfl rfl (g))) ?_
      refine J_ite (fun h12 => ?_) (fun h12 => ?_)
      · exact q_J.step (fun g => j_if_f rfl (cc_le_f h12) (j_goto rfl (j_iload rfl rfl (j_istore_n [some (.ref v0), some (.int v1), some (.int v2), some (.int v4), some (.int v4), some (.int ((x3 * x5) - (x7 * x9)))] rfl rfl (Or.inr rfl) rfl (j_iinc [some (.ref v0), some (.int v1), some (.int v2), some (.int v4), some (.int (v4 + (1 : Int32))), some (.int ((x3 * x5) - (x7 * x9)))] (v4 + (1 : Int32)) rfl rfl (by rw [k32_1]) (Or.inr rfl) rfl (j_goto rfl (j_weak (l := [some (.ref v0), some (.int v1), some (.int v2), some (.int v4), some (.int (v4 + (1 : Int32))), none]) (And.intro (Or.inr rfl) (And.intro (Or.inr rfl) (And.intro (Or.inr rfl) (And.intro (Or.inr rfl) (And.intro (Or.inr rfl) (And.intro (Or.inl rfl) True.intro)))))) (g)))))))) (l_Rs_findUtmost_L5 hd v0 v1 v2 hX n v4 (v4 + (1 : Int32)) σ)
      exact q_J.step (fun g => j_if_t rfl (cc_le_t h12) (j_iinc [some (.ref v0), some (.int v1), some (.int v2), some (.int v3), some (.int (v4 + (1 : Int32))), some (.int ((x3 * x5) - (x7 * x9)))] (v4 + (1 : Int32)) rfl rfl (by rw [k32_1]) (Or.inr rfl) rfl (j_goto rfl (j_weak (l := [some (.ref v0), some (.int v1), some (.int v2), some (.int v3), some (.int (v4 + (1 : Int32))), none]) (And.intro (Or.inr rfl) (And.intro (Or.inr rfl) (And.intro (Or.inr rfl) (And.intro (Or.inr rfl) (And.intro (Or.inr rfl) (And.intro (Or.inl rfl) True.intro)))))) (g))))) (l_Rs_findUtmost_L5 hd v0 v1 v2 hX n v3 (v4 + (1 : Int32)) σ)
    exact J_some (fun h => j_icmp_t rfl (cc_ge_t h1) (j_weak (l := [none, none, none, some (.int v3), none, none]) (And.intro (Or.inl rfl) (And.intro (Or.inl rfl) (And.intro (Or.inl rfl) (And.intro (Or.inr rfl) (And.intro (Or.inl rfl) (And.intro (Or.inr rfl) True.intro)))))) (hX _ _ h)))

set_option maxRecDepth 100000 in
theorem b_Rs_findUtmost {fo : Option Nat} {d : Nat} (hd : 1 ≤ d + 1) {o : q_O} {σ' : q_H} (v0 : Nat) (v1 : Int32) (v2 : Int32) (σ : q_H) : q_J (fun (r : Int32) (σ1 : q_H) => o = .inl (some (.int r)) ∧ σ' = σ1) (f_Rs_findUtmost v0 v1 v2 σ) (q_G (q_rf fo) d m_Rs_findUtmost o σ' 0 [some (.ref v0), some (.int v1), some (.int v2), none, none, none] [] σ) := by
  unfold f_Rs_findUtmost
  refine J_sq (fun (t1 : Int32) (σ2 : q_H) => q_G (q_rf fo) d m_Rs_findUtmost o σ' 68 [none, none, none, some (.int t1), none, none] [] σ2) (q_J.step (fun g => j_iconst (0 : Int32) rfl k32_0 (j_istore_n [some (.ref v0), some (.int v1), some (.int v2), some (.int (0 : Int32)), none, none] rfl rfl (Or.inr rfl) rfl (j_iconst (1 : Int32) rfl k32_1 (j_istore [some (.ref v0), some (.int v1), some (.int v2), some (.int (0 : Int32)), some (.int (1 : Int32)), none] rfl rfl (Or.inr rfl) rfl (g))))) (l_Rs_findUtmost_L5 hd v0 v1 v2 (fun _ _ h => h) q_FU (0 : Int32) (1 : Int32) σ)) (fun t1 σ2 => ?_)
  exact J_some (fun h => j_iload_n rfl rfl (j_iret rfl rfl h))
theorem t_Rs_findUtmost {fo : Option Nat} {d : Nat} (hd : 1 ≤ d) {v0 : Nat} {v1 : Int32} {v2 : Int32} {σ σ1 : q_H} {r : Int32} (h : f_Rs_findUtmost v0 v1 v2 σ = some (r, σ1)) : q_Rel (q_rf fo) q_Ms d 157 [.ref v0, .int v1, .int v2] σ (.inl (some (.int r))) σ1 := by
  obtain ⟨d, rfl⟩ : ∃ d1, d = d1 + 1 := ⟨d - 1, by omega⟩
  exact q_Rel.of rfl rfl (b_Rs_findUtmost hd _ _ _ σ _ _ h ⟨rfl, rfl⟩)

set_option maxRecDepth 100000 in
theorem l_Rs_lawLines_L4 {fo : Option Nat} {d : Nat} (hd : 1 ≤ d + 1) {o : q_O} {σ' : q_H} {E : (Int32) → q_H → Prop} (v0 : Nat) (hX : ∀ (t : Int32) σ1, E (t) σ1 → q_G (q_rf fo) d m_Rs_lawLines o σ' 27 [none, some (.int t), none] [] σ1)  : ∀ (n : Nat) (v1 : Int32) (v2 : Int32) (σ : q_H), q_J E (f_Rs_lawLines_L4 v0 n v1 v2 σ) (q_G (q_rf fo) d m_Rs_lawLines o σ' 4 [some (.ref v0), some (.int v1), some (.int v2)] [] σ)
  | 0, v1, v2, σ => J_none
  | n + 1, v1, v2, σ => by
    unfold f_Rs_lawLines_L4
    refine q_J.step (fun g => j_iload_n rfl rfl (j_iconst (4 : Int32) rfl k32_4 (g))) ?_
    refine J_ite (fun h1 => ?_) (fun h1 => ?_)
    · refine J_bind fun x2 hx2 => ?_
      refine J_bind fun x3 hx3 => ?_
      refine J_bind fun x4 hx4 => ?_
      exact q_J.step (fun g => j_icmp_f rfl (cc_ge_f h1) (j_iload_n rfl rfl (j_aload_n rfl rfl (j_gfr rfl hx2 (j_iload_n rfl rfl (j_aal rfl rfl hx3 (j_gfi rfl hx4 (j_iadd rfl (j_istore_n [some (.ref v0), some (.int (v1 + x4)), some (.int v2)] rfl rfl (Or.inr rfl) rfl (j_iinc [some (.ref v0), some (.int (v1 + x4)), some (.int (v2 + (1 : Int32)))] (v2 + (1 : Int32)) rfl rfl (by rw [k32_1]) (Or.inr rfl) rfl (j_goto rfl (g)))))))))))) (l_Rs_lawLines_L4 hd v0 hX n (v1 + x4) (v2 + (1 : Int32)) σ)
    exact J_some (fun h => j_icmp_t rfl (cc_ge_t h1) (j_weak (l := [none, some (.int v1), none]) (And.intro (Or.inl rfl) (And.intro (Or.inr rfl) (And.intro (Or.inl rfl) True.intro))) (hX _ _ h)))

set_option maxRecDepth 100000 in
theorem b_Rs_lawLines {fo : Option Nat} {d : Nat} (hd : 1 ≤ d + 1) {o : q_O} {σ' : q_H} (v0 : Nat) (σ : q_H) : q_J (fun (r : Int32) (σ1 : q_H) => o = .inl (some (.int r)) ∧ σ' = σ1) (f_Rs_lawLines v0 σ) (q_G (q_rf fo) d m_Rs_lawLines o σ' 0 [some (.ref v0), none, none] [] σ) := by
  unfold f_Rs_lawLines
  refine J_sq (fun (t1 : Int32) (σ2 : q_H) => q_G (q_rf fo) d m_Rs_lawLines o σ' 27 [none, some (.int t1), none] [] σ2) (q_J.step (fun g => j_iconst (0 : Int32) rfl k32_0 (j_istore_n [some (.ref v0), some (.int (0 : Int32)), none] rfl rfl (Or.inr rfl) rfl (j_iconst (0 : Int32) rfl k32_0 (j_istore_n [some (.ref v0), some (.int (0 : Int32)), some (.int (0 : Int32))] rfl rfl (Or.inr rfl) rfl (g))))) (l_Rs_lawLines_L4 hd v0 (fun _ _ h => h) q_FU (0 : Int32) (0 : Int32) σ)) (fun t1 σ2 => ?_)
  exact J_some (fun h => j_iload_n rfl rfl (j_iret rfl rfl h))
theorem t_Rs_lawLines {fo : Option Nat} {d : Nat} (hd : 1 ≤ d) {v0 : Nat} {σ σ1 : q_H} {r : Int32} (h : f_Rs_lawLines v0 σ = some (r, σ1)) : q_Rel (q_rf fo) q_Ms d 163 [.ref v0] σ (.inl (some (.int r))) σ1 := by
  obtain ⟨d, rfl⟩ : ∃ d1, d = d1 + 1 := ⟨d - 1, by omega⟩
  exact q_Rel.of rfl rfl (b_Rs_lawLines hd _ σ _ _ h ⟨rfl, rfl⟩)

set_option maxRecDepth 100000 in
theorem l_Ta_put_L3 {fo : Option Nat} {d : Nat} (hd : 2 ≤ d + 1) {o : q_O} {σ' : q_H} {E : (Unit) → q_H → Prop} (v0 : Nat) (v1 : Int64) (hX : ∀ (t : Unit) σ1, E (t) σ1 → q_G (q_rf fo) d m_Ta_put o σ' 74 [none, none, none, none, none] [] σ1)  : ∀ (n : Nat) (v3 : Int32) (σ : q_H), q_J E (f_Ta_put_L3 v0 v1 n v3 σ) (q_G (q_rf fo) d m_Ta_put o σ' 3 [some (.ref v0), some (.long v1), none, some (.int v3), none] [] σ)
  | 0, v3, σ => J_none
  | n + 1, v3, σ => by
    unfold f_Ta_put_L3
    refine q_J.step (fun g => j_iload_n rfl rfl (g)) ?_
    refine J_ite (fun h1 => ?_) (fun h1 => ?_)
    · exact J_some (fun h => j_if_t rfl (cc_lt_t h1) (j_weak (l := [none, none, none, none, none]) (And.intro (Or.inl rfl) (And.intro (Or.inl rfl) (And.intro (Or.inr rfl) (And.intro (Or.inl rfl) (And.intro (Or.inr rfl) True.intro))))) (hX _ _ h)))
    refine q_J.step (fun g => j_if_f rfl (cc_lt_f h1) (j_lload_n rfl rfl (j_iload_n rfl rfl (j_lushr rfl (j_ldc2 (255 : Int64) rfl kw_255 (j_land rfl (j_l2i rfl (j_istore [some (.ref v0), some (.long v1), none, some (.int v3), some (.int ((((v1.toUInt64 >>> (v3.toInt64.toUInt64 &&& Int64.toUInt64 63)).toInt64) &&& (255 : Int64)).toInt32))] rfl rfl (Or.inr rfl) rfl (j_iload rfl rfl (j_bipush (10 : Int32) rfl kb_10 (g))))))))))) ?_
    refine J_ite (fun h2 => ?_) (fun h2 => ?_)
    · refine J_bind fun x3 hx3 => ?_
      refine q_J.step (fun g => j_icmp_t rfl (cc_eq_t h2) (j_aload_n rfl rfl (j_gfi rfl hx3 (j_sipush (1000 : Int32) rfl ks_1000 (g))))) ?_
      refine J_ite (fun h4 => ?_) (fun h4 => ?_)
      · refine J_bind fun x5 hx5 => ?_
        refine J_bind fun x6 hx6 => ?_
        refine q_J.step (fun g => j_icmp_f rfl (cc_ge_f h4) (j_aload_n rfl rfl (j_gfr rfl hx5 (j_aload_n rfl rfl (j_gfi rfl hx6 (j_iload rfl rfl (j_i2c rfl (g)))))))) ?_
        refine J_ite (fun _ => J_none) (fun h8 => ?_)
        refine J_bind fun σ7 hσ7 => ?_
        refine J_bind fun x9 hx9 => ?_
        refine J_bind fun σ10 hσ10 => ?_
        exact q_J.step (fun g => j_cas rfl (Decidable.not_not.mp h8) hσ7 (j_aload_n rfl rfl (j_dup rfl rfl (j_gfi rfl hx9 (j_iconst (1 : Int32) rfl k32_1 (j_iadd rfl (j_putf rfl rfl rfl rfl hσ10 (j_iinc [some (.ref v0), some (.long v1), none, some (.int (v3 + (-8 : Int32))), some (.int ((((v1.toUInt64 >>> (v3.toInt64.toUInt64 &&& Int64.toUInt64 63)).toInt64) &&& (255 : Int64)).toInt32))] (v3 + (-8 : Int32)) rfl rfl (by rw [k32_m8]) (Or.inr True.intro) rfl (j_goto rfl (j_weak (l := [some (.ref v0), some (.long v1), none, some (.int (v3 + (-8 : Int32))), none]) (And.intro (Or.inr rfl) (And.intro (Or.inr rfl) (And.intro (Or.inr rfl) (And.intro (Or.inr rfl) (And.intro (Or.inl rfl) True.intro))))) (g))))))))))) (l_Ta_put_L3 hd v0 v1 hX n (v3 + (-8 : Int32)) σ10)
      exact q_J.step (fun g => j_icmp_t rfl (cc_ge_t h4) (j_iinc [some (.ref v0), some (.long v1), none, some (.int (v3 + (-8 : Int32))), some (.int ((((v1.toUInt64 >>> (v3.toInt64.toUInt64 &&& Int64.toUInt64 63)).toInt64) &&& (255 : Int64)).toInt32))] (v3 + (-8 : Int32)) rfl rfl (by rw [k32_m8]) (Or.inr True.intro) rfl (j_goto rfl (j_weak (l := [some (.ref v0), some (.long v1), none, some (.int (v3 + (-8 : Int32))), none]) (And.intro (Or.inr rfl) (And.intro (Or.inr rfl) (And.intro (Or.inr rfl) (And.intro (Or.inr rfl) (And.intro (Or.inl rfl) True.intro))))) (g))))) (l_Ta_put_L3 hd v0 v1 hX n (v3 + (-8 : Int32)) σ)
    refine J_cl fun x12 σ11 hσ11 => ?_
    refine q_J.step (fun g => j_icmp_f rfl (cc_eq_f h2) (j_bipush (32 : Int32) rfl kb_32 (j_iload rfl rfl (j_bipush (126 : Int32) rfl kb_126 (j_s1 [.int (32 : Int32), .int ((((v1.toUInt64 >>> (v3.toInt64.toUInt64 &&& Int64.toUInt64 63)).toInt64) &&& (255 : Int64)).toInt32), .int (126 : Int32)] [] rfl rfl rfl rfl rfl (t_Rs_isFrom (by omega) hσ11) (g)))))) ?_
    refine J_ite (fun h13 => ?_) (fun h13 => ?_)
    · exact q_J.step (fun g => j_if_t rfl (cc_eq_t h13) (j_iinc [some (.ref v0), some (.long v1), none, some (.int (v3 + (-8 : Int32))), some (.int ((((v1.toUInt64 >>> (v3.toInt64.toUInt64 &&& Int64.toUInt64 63)).toInt64) &&& (255 : Int64)).toInt32))] (v3 + (-8 : Int32)) rfl rfl (by rw [k32_m8]) (Or.inr True.intro) rfl (j_goto rfl (j_weak (l := [some (.ref v0), some (.long v1), none, some (.int (v3 + (-8 : Int32))), none]) (And.intro (Or.inr rfl) (And.intro (Or.inr rfl) (And.intro (Or.inr rfl) (And.intro (Or.inr rfl) (And.intro (Or.inl rfl) True.intro))))) (g))))) (l_Ta_put_L3 hd v0 v1 hX n (v3 + (-8 : Int32)) σ11)
    refine J_bind fun x14 hx14 => ?_
    refine q_J.step (fun g => j_if_f rfl (cc_eq_f h13) (j_aload_n rfl rfl (j_gfi rfl hx14 (j_sipush (1000 : Int32) rfl ks_1000 (g))))) ?_
    refine J_ite (fun h15 => ?_) (fun h15 => ?_)
    · refine J_bind fun x16 hx16 => ?_
      refine J_bind fun x17 hx17 => ?_
      refine q_J.step (fun g => j_icmp_f rfl (cc_ge_f h15) (j_aload_n rfl rfl (j_gfr rfl hx16 (j_aload_n rfl rfl (j_gfi rfl hx17 (j_iload rfl rfl (j_i2c rfl (g)))))))) ?_
      refine J_ite (fun _ => J_none) (fun h19 => ?_)
      refine J_bind fun σ18 hσ18 => ?_
      refine J_bind fun x20 hx20 => ?_
      refine J_bind fun σ21 hσ21 => ?_
      exact q_J.step (fun g => j_cas rfl (Decidable.not_not.mp h19) hσ18 (j_aload_n rfl rfl (j_dup rfl rfl (j_gfi rfl hx20 (j_iconst (1 : Int32) rfl k32_1 (j_iadd rfl (j_putf rfl rfl rfl rfl hσ21 (j_iinc [some (.ref v0), some (.long v1), none, some (.int (v3 + (-8 : Int32))), some (.int ((((v1.toUInt64 >>> (v3.toInt64.toUInt64 &&& Int64.toUInt64 63)).toInt64) &&& (255 : Int64)).toInt32))] (v3 + (-8 : Int32)) rfl rfl (by rw [k32_m8]) (Or.inr True.intro) rfl (j_goto rfl (j_weak (l := [some (.ref v0), some (.long v1), none, some (.int (v3 + (-8 : Int32))), none]) (And.intro (Or.inr rfl) (And.intro (Or.inr rfl) (And.intro (Or.inr rfl) (And.intro (Or.inr rfl) (And.intro (Or.inl rfl) True.intro))))) (g))))))))))) (l_Ta_put_L3 hd v0 v1 hX n (v3 + (-8 : Int32)) σ21)
    exact q_J.step (fun g => j_icmp_t rfl (cc_ge_t h15) (j_iinc [some (.ref v0), some (.long v1), none, some (.int (v3 + (-8 : Int32))), some (.int ((((v1.toUInt64 >>> (v3.toInt64.toUInt64 &&& Int64.toUInt64 63)).toInt64) &&& (255 : Int64)).toInt32))] (v3 + (-8 : Int32)) rfl rfl (by rw [k32_m8]) (Or.inr True.intro) rfl (j_goto rfl (j_weak (l := [some (.ref v0), some (.long v1), none, some (.int (v3 + (-8 : Int32))), none]) (And.intro (Or.inr rfl) (And.intro (Or.inr rfl) (And.intro (Or.inr rfl) (And.intro (Or.inr rfl) (And.intro (Or.inl rfl) True.intro))))) (g))))) (l_Ta_put_L3 hd v0 v1 hX n (v3 + (-8 : Int32)) σ11)

set_option maxRecDepth 100000 in
theorem b_Ta_put {fo : Option Nat} {d : Nat} (hd : 2 ≤ d + 1) {o : q_O} {σ' : q_H} (v0 : Nat) (v1 : Int64) (σ : q_H) : q_J (fun (r : Unit) (σ1 : q_H) => o = .inl none ∧ σ' = σ1) (f_Ta_put v0 v1 σ) (q_G (q_rf fo) d m_Ta_put o σ' 0 [some (.ref v0), some (.long v1), none, none, none] [] σ) := by
  unfold f_Ta_put
  refine J_sq (fun (t1 : Unit) (σ2 : q_H) => q_G (q_rf fo) d m_Ta_put o σ' 74 [none, none, none, none, none] [] σ2) (q_J.step (fun g => j_bipush (56 : Int32) rfl kb_56 (j_istore_n [some (.ref v0), some (.long v1), none, some (.int (56 : Int32)), none] rfl rfl (Or.inr True.intro) rfl (g))) (l_Ta_put_L3 hd v0 v1 (fun _ _ h => h) q_FU (56 : Int32) σ)) (fun t1 σ2 => ?_)
  exact J_some (fun h => j_vret rfl rfl h)
theorem t_Ta_put {fo : Option Nat} {d : Nat} (hd : 2 ≤ d) {v0 : Nat} {v1 : Int64} {σ σ1 : q_H} {r : Unit} (h : f_Ta_put v0 v1 σ = some (r, σ1)) : q_Rel (q_rf fo) q_Ms d 15 [.ref v0, .long v1] σ (.inl none) σ1 := by
  obtain ⟨d, rfl⟩ : ∃ d1, d = d1 + 1 := ⟨d - 1, by omega⟩
  exact q_Rel.of rfl rfl (b_Ta_put hd _ _ σ _ _ h ⟨rfl, rfl⟩)

set_option maxRecDepth 100000 in
theorem l_Ta_takeWord_L0 {fo : Option Nat} {d : Nat} (hd : 2 ≤ d + 1) {o : q_O} {σ' : q_H} {E : (Unit) → q_H → Prop} (v0 : Nat) (hX : ∀ (t : Unit) σ1, E (t) σ1 → q_G (q_rf fo) d m_Ta_takeWord o σ' 63 [some (.ref v0)] [] σ1)  : ∀ (n : Nat) (σ : q_H), q_J E (f_Ta_takeWord_L0 v0 n σ) (q_G (q_rf fo) d m_Ta_takeWord o σ' 0 [some (.ref v0)] [] σ)
  | 0, σ => J_none
  | n + 1, σ => by
    unfold f_Ta_takeWord_L0
    refine J_bind fun x1 hx1 => ?_
    refine J_bind fun x2 hx2 => ?_
    refine q_J.step (fun g => j_aload_n rfl rfl (j_gfi rfl hx1 (j_aload_n rfl rfl (j_gfi rfl hx2 (g))))) ?_
    refine J_ite (fun h3 => ?_) (fun h3 => ?_)
    · refine J_bind fun x4 hx4 => ?_
      refine J_bind fun x5 hx5 => ?_
      refine J_bind fun x6 hx6 => ?_
      refine J_cl fun x8 σ7 hσ7 => ?_
      refine q_J.step (fun g => j_icmp_f rfl (cc_ge_f h3) (j_bipush (97 : Int32) rfl kb_97 (j_aload_n rfl rfl (j_gfr rfl hx4 (j_aload_n rfl rfl (j_gfi rfl hx5 (j_cal rfl hx6 (j_bipush (122 : Int32) rfl kb_122 (j_s1 [.int (97 : Int32), .int x6, .int (122 : Int32)] [] rfl rfl rfl rfl rfl (t_Rs_isFrom (by omega) hσ7) (g)))))))))) ?_
      refine J_ite (fun h9 => ?_) (fun h9 => ?_)
      · exact J_some (fun h => j_if_t rfl (cc_eq_t h9) (hX _ _ h))
      refine J_bind fun x10 hx10 => ?_
      refine J_bind fun x11 hx11 => ?_
      refine J_bind fun x12 hx12 => ?_
      refine J_bind fun x13 hx13 => ?_
      refine J_cl fun x15 σ14 hσ14 => ?_
      refine J_bind fun σ16 hσ16 => ?_
      refine J_bind fun x17 hx17 => ?_
      refine J_bind fun σ18 hσ18 => ?_
      exact q_J.step (fun g => j_if_f rfl (cc_eq_f h9) (j_aload_n rfl rfl (j_aload_n rfl rfl (j_gfl rfl hx10 (j_aload_n rfl rfl (j_gfr rfl hx11 (j_aload_n rfl rfl (j_gfi rfl hx12 (j_cal rfl hx13 (j_s1 [.long x10, .int x13] [.ref v0] rfl rfl rfl rfl rfl (t_Ta_longer (by omega) hσ14) (j_putf rfl rfl rfl rfl hσ16 (j_aload_n rfl rfl (j_dup rfl rfl (j_gfi rfl hx17 (j_iconst (1 : Int32) rfl k32_1 (j_iadd rfl (j_putf rfl rfl rfl rfl hσ18 (j_goto rfl (g))))))))))))))))))) (l_Ta_takeWord_L0 hd v0 hX n σ18)
    exact J_some (fun h => j_icmp_t rfl (cc_ge_t h3) (hX _ _ h))

set_option maxRecDepth 100000 in
theorem b_Ta_takeWord {fo : Option Nat} {d : Nat} (hd : 2 ≤ d + 1) {o : q_O} {σ' : q_H} (v0 : Nat) (σ : q_H) : q_J (fun (r : Unit) (σ1 : q_H) => o = .inl none ∧ σ' = σ1) (f_Ta_takeWord v0 σ) (q_G (q_rf fo) d m_Ta_takeWord o σ' 0 [some (.ref v0)] [] σ) := by
  unfold f_Ta_takeWord
  refine J_sq (fun (t1 : Unit) (σ2 : q_H) => q_G (q_rf fo) d m_Ta_takeWord o σ' 63 [some (.ref v0)] [] σ2) (l_Ta_takeWord_L0 hd v0 (fun _ _ h => h) q_FU σ) (fun t1 σ2 => ?_)
  refine J_bind fun x3 hx3 => ?_
  refine J_bind fun x4 hx4 => ?_
  refine q_J.step (fun g => j_aload_n rfl rfl (j_aload_n rfl rfl (j_gfi rfl hx3 (j_aload_n rfl rfl (j_gfi rfl hx4 (j_isub rfl (j_bipush (8 : Int32) rfl kb_8 (g)))))))) ?_
  refine J_ite (fun h5 => ?_) (fun h5 => ?_)
  · refine J_bind fun σ6 hσ6 => ?_
    exact J_some (fun h => j_icmp_t rfl (cc_gt_t h5) (j_iconst (4 : Int32) rfl k32_4 (j_putf rfl rfl rfl rfl hσ6 (j_vret rfl rfl h))))
  refine J_bind fun σ7 hσ7 => ?_
  exact J_some (fun h => j_icmp_f rfl (cc_gt_f h5) (j_iconst (1 : Int32) rfl k32_1 (j_goto rfl (j_putf rfl rfl rfl rfl hσ7 (j_vret rfl rfl h)))))
theorem t_Ta_takeWord {fo : Option Nat} {d : Nat} (hd : 2 ≤ d) {v0 : Nat} {σ σ1 : q_H} {r : Unit} (h : f_Ta_takeWord v0 σ = some (r, σ1)) : q_Rel (q_rf fo) q_Ms d 18 [.ref v0] σ (.inl none) σ1 := by
  obtain ⟨d, rfl⟩ : ∃ d1, d = d1 + 1 := ⟨d - 1, by omega⟩
  exact q_Rel.of rfl rfl (b_Ta_takeWord hd _ σ _ _ h ⟨rfl, rfl⟩)

set_option maxRecDepth 100000 in
theorem l_Ta_takeNumber_L0 {fo : Option Nat} {d : Nat} (hd : 2 ≤ d + 1) {o : q_O} {σ' : q_H} {E : (Unit) → q_H → Prop} (v0 : Nat) (hX : ∀ (t : Unit) σ1, E (t) σ1 → q_G (q_rf fo) d m_Ta_takeNumber o σ' 69 [some (.ref v0)] [] σ1)  : ∀ (n : Nat) (σ : q_H), q_J E (f_Ta_takeNumber_L0 v0 n σ) (q_G (q_rf fo) d m_Ta_takeNumber o σ' 0 [some (.ref v0)] [] σ)
  | 0, σ => J_none
  | n + 1, σ => by
    unfold f_Ta_takeNumber_L0
    refine J_bind fun x1 hx1 => ?_
    refine J_bind fun x2 hx2 => ?_
    refine q_J.step (fun g => j_aload_n rfl rfl (j_gfi rfl hx1 (j_aload_n rfl rfl (j_gfi rfl hx2 (g))))) ?_
    refine J_ite (fun h3 => ?_) (fun h3 => ?_)
    · refine J_bind fun x4 hx4 => ?_
      refine J_bind fun x5 hx5 => ?_
      refine J_bind fun x6 hx6 => ?_
      refine J_cl fun x8 σ7 hσ7 => ?_
      refine q_J.step (fun g => j_icmp_f rfl (cc_ge_f h3) (j_bipush (48 : Int32) rfl kb_48 (j_aload_n rfl rfl (j_gfr rfl hx4 (j_aload_n rfl rfl (j_gfi rfl hx5 (j_cal rfl hx6 (j_bipush (57 : Int32) rfl kb_57 (j_s1 [.int (48 : Int32), .int x6, .int (57 : Int32)] [] rfl rfl rfl rfl rfl (t_Rs_isFrom (by omega) hσ7) (g)))))))))) ?_
      refine J_ite (fun h9 => ?_) (fun h9 => ?_)
      · exact J_some (fun h => j_if_t rfl (cc_eq_t h9) (hX _ _ h))
      refine J_bind fun x10 hx10 => ?_
      refine J_bind fun x11 hx11 => ?_
      refine J_bind fun x12 hx12 => ?_
      refine J_bind fun x13 hx13 => ?_
      refine J_bind fun σ14 hσ14 => ?_
      refine J_bind fun x15 hx15 => ?_
      refine J_bind fun σ16 hσ16 => ?_
      exact q_J.step (fun g => j_if_f rfl (cc_eq_f h9) (j_aload_n rfl rfl (j_aload_n rfl rfl (j_gfl rfl hx10 (j_ldc2 (10 : Int64) rfl kw_10 (j_lmul rfl (j_aload_n rfl rfl (j_gfr rfl hx11 (j_aload_n rfl rfl (j_gfi rfl hx12 (j_cal rfl hx13 (j_bipush (48 : Int32) rfl kb_48 (j_isub rfl (j_i2l rfl (j_ladd rfl (j_putf rfl rfl rfl rfl hσ14 (j_aload_n rfl rfl (j_dup rfl rfl (j_gfi rfl hx15 (j_iconst (1 : Int32) rfl k32_1 (j_iadd rfl (j_putf rfl rfl rfl rfl hσ16 (j_goto rfl (g)))))))))))))))))))))))) (l_Ta_takeNumber_L0 hd v0 hX n σ16)
    exact J_some (fun h => j_icmp_t rfl (cc_ge_t h3) (hX _ _ h))

set_option maxRecDepth 100000 in
theorem b_Ta_takeNumber {fo : Option Nat} {d : Nat} (hd : 2 ≤ d + 1) {o : q_O} {σ' : q_H} (v0 : Nat) (σ : q_H) : q_J (fun (r : Unit) (σ1 : q_H) => o = .inl none ∧ σ' = σ1) (f_Ta_takeNumber v0 σ) (q_G (q_rf fo) d m_Ta_takeNumber o σ' 0 [some (.ref v0)] [] σ) := by
  unfold f_Ta_takeNumber
  refine J_sq (fun (t1 : Unit) (σ2 : q_H) => q_G (q_rf fo) d m_Ta_takeNumber o σ' 69 [some (.ref v0)] [] σ2) (l_Ta_takeNumber_L0 hd v0 (fun _ _ h => h) q_FU σ) (fun t1 σ2 => ?_)
  refine J_bind fun x3 hx3 => ?_
  refine J_bind fun x4 hx4 => ?_
  refine q_J.step (fun g => j_aload_n rfl rfl (j_aload_n rfl rfl (j_gfi rfl hx3 (j_aload_n rfl rfl (j_gfi rfl hx4 (j_isub rfl (j_iconst (4 : Int32) rfl k32_4 (g)))))))) ?_
  refine J_ite (fun h5 => ?_) (fun h5 => ?_)
  · refine J_bind fun σ6 hσ6 => ?_
    exact J_some (fun h => j_icmp_t rfl (cc_gt_t h5) (j_iconst (4 : Int32) rfl k32_4 (j_putf rfl rfl rfl rfl hσ6 (j_vret rfl rfl h))))
  refine J_bind fun σ7 hσ7 => ?_
  exact J_some (fun h => j_icmp_f rfl (cc_gt_f h5) (j_iconst (2 : Int32) rfl k32_2 (j_goto rfl (j_putf rfl rfl rfl rfl hσ7 (j_vret rfl rfl h)))))
theorem t_Ta_takeNumber {fo : Option Nat} {d : Nat} (hd : 2 ≤ d) {v0 : Nat} {σ σ1 : q_H} {r : Unit} (h : f_Ta_takeNumber v0 σ = some (r, σ1)) : q_Rel (q_rf fo) q_Ms d 19 [.ref v0] σ (.inl none) σ1 := by
  obtain ⟨d, rfl⟩ : ∃ d1, d = d1 + 1 := ⟨d - 1, by omega⟩
  exact q_Rel.of rfl rfl (b_Ta_takeNumber hd _ σ _ _ h ⟨rfl, rfl⟩)

set_option maxRecDepth 100000 in
theorem b_Ra_init {fo : Option Nat} {d : Nat} (hd : 2 ≤ d + 1) {o : q_O} {σ' : q_H} (v0 : Nat) (v1 : Int64) (v3 : Int64) (σ : q_H) : q_J (fun (r : Unit) (σ1 : q_H) => o = .inl none ∧ σ' = σ1) (f_Ra_init v0 v1 v3 σ) (q_G (q_rf fo) d m_Ra_init o σ' 0 [some (.ref v0), some (.long v1), none, some (.long v3), none, none, none] [] σ) := by
  unfold f_Ra_init
  refine J_cl fun x2 σ1 hσ1 => ?_
  refine q_J.step (fun g => j_aload_n rfl rfl (j_obj rfl rfl (j_lconst (1 : Int64) rfl kl_1 (j_lload_n rfl rfl (j_labs rfl rfl (j_lload_n rfl rfl (j_s1 [.long (if 0 < v1 then v1 else -v1), .long v3] [.long (1 : Int64)] rfl rfl rfl rfl rfl (t_Ra_commonDivisor (by omega) hσ1) (j_lmax rfl rfl (j_lstore [some (.ref v0), some (.long v1), none, some (.long v3), none, some (.long (if x2 < (1 : Int64) then (1 : Int64) else x2)), none] rfl rfl (Or.inr True.intro) rfl (j_aload_n rfl rfl (j_lload_n rfl rfl (j_lload rfl rfl (g))))))))))))) ?_
  refine J_ite (fun _ => J_none) (fun h3 => ?_)
  refine J_bind fun σ4 hσ4 => ?_
  refine q_J.step (fun g => j_ldiv rfl h3 (j_putf rfl rfl rfl rfl hσ4 (j_aload_n rfl rfl (j_lload_n rfl rfl (j_lload rfl rfl (g)))))) ?_
  refine J_ite (fun _ => J_none) (fun h5 => ?_)
  refine J_bind fun σ6 hσ6 => ?_
  exact J_some (fun h => j_ldiv rfl h5 (j_putf rfl rfl rfl rfl hσ6 (j_vret rfl rfl h)))
theorem t_Ra_init {fo : Option Nat} {d : Nat} (hd : 2 ≤ d) {v0 : Nat} {v1 : Int64} {v3 : Int64} {σ σ1 : q_H} {r : Unit} (h : f_Ra_init v0 v1 v3 σ = some (r, σ1)) : q_Rel (q_rf fo) q_Ms d 24 [.ref v0, .long v1, .long v3] σ (.inl none) σ1 := by
  obtain ⟨d, rfl⟩ : ∃ d1, d = d1 + 1 := ⟨d - 1, by omega⟩
  exact q_Rel.of rfl rfl (b_Ra_init hd _ _ _ σ _ _ h ⟨rfl, rfl⟩)

set_option maxRecDepth 100000 in
theorem l_Ty_all_L4 {fo : Option Nat} {d : Nat} (hd : 2 ≤ d + 1) {o : q_O} {σ' : q_H} {E : (Int32) → q_H → Prop} (v0 : Nat) (v1 : Int32) (hX : ∀ (t : Int32) σ1, E (t) σ1 → q_G (q_rf fo) d m_Ty_all o σ' 24 [none, none, some (.int t), none] [] σ1)  : ∀ (n : Nat) (v2 : Int32) (v3 : Int32) (σ : q_H), q_J E (f_Ty_all_L4 v0 v1 n v2 v3 σ) (q_G (q_rf fo) d m_Ty_all o σ' 4 [some (.ref v0), some (.int v1), some (.int v2), some (.int v3)] [] σ)
  | 0, v2, v3, σ => J_none
  | n + 1, v2, v3, σ => by
    unfold f_Ty_all_L4
    refine q_J.step (fun g => j_iload_n rfl rfl (j_iconst (5 : Int32) rfl k32_5 (g))) ?_
    refine J_ite (fun h1 => ?_) (fun h1 => ?_)
    · refine J_bind fun w2 hw2 => ?_
      refine J_cl fun x4 σ3 hσ3 => ?_
      exact q_J.step (fun g => j_icmp_f rfl (cc_ge_f h1) (j_iload_n rfl rfl (j_aload_n rfl rfl (j_iload_n rfl rfl (j_iload_n rfl rfl (j_v1 [.ref v0, .int v3, .int v1] [.int v2] rfl rfl rfl rfl rfl rfl hw2 (Or.inl rfl) (t_Ty_ofSort (by omega) hσ3) (j_iadd rfl (j_istore_n [some (.ref v0), some (.int v1), some (.int (v2 + x4)), some (.int v3)] rfl rfl (Or.inr rfl) rfl (j_iinc [some (.ref v0), some (.int v1), some (.int (v2 + x4)), some (.int (v3 + (1 : Int32)))] (v3 + (1 : Int32)) rfl rfl (by rw [k32_1]) (Or.inr rfl) rfl (j_goto rfl (g))))))))))) (l_Ty_all_L4 hd v0 v1 hX n (v2 + x4) (v3 + (1 : Int32)) σ3)
    exact J_some (fun h => j_icmp_t rfl (cc_ge_t h1) (j_weak (l := [none, none, some (.int v2), none]) (And.intro (Or.inl rfl) (And.intro (Or.inl rfl) (And.intro (Or.inr rfl) (And.intro (Or.inl rfl) True.intro)))) (hX _ _ h)))

set_option maxRecDepth 100000 in
theorem b_Ty_all {fo : Option Nat} {d : Nat} (hd : 2 ≤ d + 1) {o : q_O} {σ' : q_H} (v0 : Nat) (v1 : Int32) (σ : q_H) : q_J (fun (r : Int32) (σ1 : q_H) => o = .inl (some (.int r)) ∧ σ' = σ1) (f_Ty_all v0 v1 σ) (q_G (q_rf fo) d m_Ty_all o σ' 0 [some (.ref v0), some (.int v1), none, none] [] σ) := by
  unfold f_Ty_all
  refine J_sq (fun (t1 : Int32) (σ2 : q_H) => q_G (q_rf fo) d m_Ty_all o σ' 24 [none, none, some (.int t1), none] [] σ2) (q_J.step (fun g => j_iconst (0 : Int32) rfl k32_0 (j_istore_n [some (.ref v0), some (.int v1), some (.int (0 : Int32)), none] rfl rfl (Or.inr rfl) rfl (j_iconst (0 : Int32) rfl k32_0 (j_istore_n [some (.ref v0), some (.int v1), some (.int (0 : Int32)), some (.int (0 : Int32))] rfl rfl (Or.inr rfl) rfl (g))))) (l_Ty_all_L4 hd v0 v1 (fun _ _ h => h) q_FU (0 : Int32) (0 : Int32) σ)) (fun t1 σ2 => ?_)
  exact J_some (fun h => j_iload_n rfl rfl (j_iret rfl rfl h))
theorem t_Ty_all {fo : Option Nat} {d : Nat} (hd : 2 ≤ d) {v0 : Nat} {v1 : Int32} {σ σ1 : q_H} {r : Int32} (h : f_Ty_all v0 v1 σ = some (r, σ1)) : q_Rel (q_rf fo) q_Ms d 31 [.ref v0, .int v1] σ (.inl (some (.int r))) σ1 := by
  obtain ⟨d, rfl⟩ : ∃ d1, d = d1 + 1 := ⟨d - 1, by omega⟩
  exact q_Rel.of rfl rfl (b_Ty_all hd _ _ σ _ _ h ⟨rfl, rfl⟩)

set_option maxRecDepth 100000 in
theorem b_Ty_picked {fo : Option Nat} {d : Nat} (hd : 2 ≤ d + 1) {o : q_O} {σ' : q_H} (v0 : Nat) (v1 : Int32) (v2 : Int32) (σ : q_H) : q_J (fun (r : Int32) (σ1 : q_H) => o = .inl (some (.int r)) ∧ σ' = σ1) (f_Ty_picked v0 v1 v2 σ) (q_G (q_rf fo) d m_Ty_picked o σ' 0 [some (.ref v0), some (.int v1), some (.int v2), none] [] σ) := by
  unfold f_Ty_picked
  refine J_bind fun w1 hw1 => ?_
  refine J_cl fun x3 σ2 hσ2 => ?_
  refine q_J.step (fun g => j_aload_n rfl rfl (j_iconst (0 : Int32) rfl k32_0 (j_iload_n rfl rfl (j_v1 [.ref v0, .int (0 : Int32), .int v2] [] rfl rfl rfl rfl rfl rfl hw1 (Or.inl rfl) (t_Ty_ofSort (by omega) hσ2) (j_istore_n [some (.ref v0), some (.int v1), some (.int v2), some (.int x3)] rfl rfl (Or.inr rfl) rfl (j_iload_n rfl rfl (j_iconst (1 : Int32) rfl k32_1 (g)))))))) ?_
  refine J_sq (fun (t8 : Int32) (σ9 : q_H) => q_G (q_rf fo) d m_Ty_picked o σ' 21 [some (.ref v0), some (.int v1), some (.int v2), some (.int t8)] [] σ9) ?_ (fun t8 σ9 => ?_)
  · refine J_ite (fun h4 => ?_) (fun h4 => ?_)
    · exact J_some (fun h => j_icmp_t rfl (cc_lt_t h4) (h))
    refine J_bind fun w5 hw5 => ?_
    refine J_cl fun x7 σ6 hσ6 => ?_
    exact J_some (fun h => j_icmp_f rfl (cc_lt_f h4) (j_iload_n rfl rfl (j_aload_n rfl rfl (j_iconst (2 : Int32) rfl k32_2 (j_iload_n rfl rfl (j_v1 [.ref v0, .int (2 : Int32), .int v2] [.int x3] rfl rfl rfl rfl rfl rfl hw5 (Or.inl rfl) (t_Ty_ofSort (by omega) hσ6) (j_iadd rfl (j_istore_n [some (.ref v0), some (.int v1), some (.int v2), some (.int (x3 + x7))] rfl rfl (Or.inr rfl) rfl (h)))))))))
  refine q_J.step (fun g => j_iload_n rfl rfl (j_iconst (2 : Int32) rfl k32_2 (g))) ?_
  refine J_ite (fun h10 => ?_) (fun h10 => ?_)
  · exact J_some (fun h => j_icmp_t rfl (cc_lt_t h10) (j_iload_n rfl rfl (j_iret rfl rfl h)))
  refine J_bind fun w11 hw11 => ?_
  refine J_cl fun x13 σ12 hσ12 => ?_
  exact J_some (fun h => j_icmp_f rfl (cc_lt_f h10) (j_iload_n rfl rfl (j_aload_n rfl rfl (j_iconst (3 : Int32) rfl k32_3 (j_iload_n rfl rfl (j_v1 [.ref v0, .int (3 : Int32), .int v2] [.int t8] rfl rfl rfl rfl rfl rfl hw11 (Or.inl rfl) (t_Ty_ofSort (by omega) hσ12) (j_iadd rfl (j_goto rfl (j_iret rfl rfl h)))))))))
theorem t_Ty_picked {fo : Option Nat} {d : Nat} (hd : 2 ≤ d) {v0 : Nat} {v1 : Int32} {v2 : Int32} {σ σ1 : q_H} {r : Int32} (h : f_Ty_picked v0 v1 v2 σ = some (r, σ1)) : q_Rel (q_rf fo) q_Ms d 33 [.ref v0, .int v1, .int v2] σ (.inl (some (.int r))) σ1 := by
  obtain ⟨d, rfl⟩ : ∃ d1, d = d1 + 1 := ⟨d - 1, by omega⟩
  exact q_Rel.of rfl rfl (b_Ty_picked hd _ _ _ σ _ _ h ⟨rfl, rfl⟩)

set_option maxRecDepth 100000 in
theorem l_Li_livingBetween_L6 {fo : Option Nat} {d : Nat} (hd : 2 ≤ d + 1) {o : q_O} {σ' : q_H} {E : (Int64) → q_H → Prop} (v0 : Nat) (v1 : Int32) (v3 : Int32) (hX : ∀ (t : Int64) σ1, E (t) σ1 → q_G (q_rf fo) d m_Li_livingBetween o σ' 31 [none, none, none, none, some (.long t), none, none] [] σ1)  : ∀ (n : Nat) (v4 : Int64) (v6 : Int32) (σ : q_H), q_J E (f_Li_livingBetween_L6 v0 v1 v3 n v4 v6 σ) (q_G (q_rf fo) d m_Li_livingBetween o σ' 6 [some (.ref v0), some (.int v1), none, some (.int v3), some (.long v4), none, some (.int v6)] [] σ)
  | 0, v4, v6, σ => J_none
  | n + 1, v4, v6, σ => by
    unfold f_Li_livingBetween_L6
    refine q_J.step (fun g => j_iload rfl rfl (j_iload_n rfl rfl (g))) ?_
    refine J_ite (fun h1 => ?_) (fun h1 => ?_)
    · refine J_bind fun w2 hw2 => ?_
      refine J_cl fun x4 σ3 hσ3 => ?_
      exact q_J.step (fun g => j_icmp_f rfl (cc_ge_f h1) (j_lload rfl rfl (j_aload_n rfl rfl (j_iload_n rfl rfl (j_iload rfl rfl (j_v1 [.ref v0, .int v1, .int v6] [.long v4] rfl rfl rfl rfl rfl rfl hw2 (Or.inl rfl) (t_Li_living (by omega) hσ3) (j_i2l rfl (j_ladd rfl (j_lstore [some (.ref v0), some (.int v1), none, some (.int v3), some (.long (v4 + x4.toInt64)), none, some (.int v6)] rfl rfl (Or.inr rfl) rfl (j_iinc [some (.ref v0), some (.int v1), none, some (.int v3), some (.long (v4 + x4.toInt64)), none, some (.int (v6 + (1 : Int32)))] (v6 + (1 : Int32)) rfl rfl (by rw [k32_1]) (Or.inr True.intro) rfl (j_goto rfl (g)))))))))))) (l_Li_livingBetween_L6 hd v0 v1 v3 hX n (v4 + x4.toInt64) (v6 + (1 : Int32)) σ3)
    exact J_some (fun h => j_icmp_t rfl (cc_ge_t h1) (j_weak (l := [none, none, none, none, some (.long v4), none, none]) (And.intro (Or.inl rfl) (And.intro (Or.inl rfl) (And.intro (Or.inr rfl) (And.intro (Or.inl rfl) (And.intro (Or.inr rfl) (And.intro (Or.inr rfl) (And.intro (Or.inl rfl) True.intro))))))) (hX _ _ h)))

set_option maxRecDepth 100000 in
theorem b_Li_livingBetween {fo : Option Nat} {d : Nat} (hd : 2 ≤ d + 1) {o : q_O} {σ' : q_H} (v0 : Nat) (v1 : Int32) (v2 : Int32) (v3 : Int32) (σ : q_H) : q_J (fun (r : Int64) (σ1 : q_H) => o = .inl (some (.long r)) ∧ σ' = σ1) (f_Li_livingBetween v0 v1 v2 v3 σ) (q_G (q_rf fo) d m_Li_livingBetween o σ' 0 [some (.ref v0), some (.int v1), some (.int v2), some (.int v3), none, none, none] [] σ) := by
  unfold f_Li_livingBetween
  refine J_sq (fun (t1 : Int64) (σ2 : q_H) => q_G (q_rf fo) d m_Li_livingBetween o σ' 31 [none, none, none, none, some (.long t1), none, none] [] σ2) (q_J.step (fun g => j_lconst (0 : Int64) rfl kl_0 (j_lstore [some (.ref v0), some (.int v1), some (.int v2), some (.int v3), some (.long (0 : Int64)), none, none] rfl rfl (Or.inr rfl) rfl (j_iload_n rfl rfl (j_istore [some (.ref v0), some (.int v1), some (.int v2), some (.int v3), some (.long (0 : Int64)), none, some (.int v2)] rfl rfl (Or.inr True.intro) rfl (j_weak (l := [some (.ref v0), some (.int v1), none, some (.int v3), some (.long (0 : Int64)), none, some (.int v2)]) (And.intro (Or.inr rfl) (And.intro (Or.inr rfl) (And.intro (Or.inl rfl) (And.intro (Or.inr rfl) (And.intro (Or.inr rfl) (And.intro (Or.inr rfl) (And.intro (Or.inr rfl) True.intro))))))) (g)))))) (l_Li_livingBetween_L6 hd v0 v1 v3 (fun _ _ h => h) q_FU (0 : Int64) v2 σ)) (fun t1 σ2 => ?_)
  exact J_some (fun h => j_lload rfl rfl (j_lret rfl rfl h))
theorem t_Li_livingBetween {fo : Option Nat} {d : Nat} (hd : 2 ≤ d) {v0 : Nat} {v1 : Int32} {v2 : Int32} {v3 : Int32} {σ σ1 : q_H} {r : Int64} (h : f_Li_livingBetween v0 v1 v2 v3 σ = some (r, σ1)) : q_Rel (q_rf fo) q_Ms d 37 [.ref v0, .int v1, .int v2, .int v3] σ (.inl (some (.long r))) σ1 := by
  obtain ⟨d, rfl⟩ : ∃ d1, d = d1 + 1 := ⟨d - 1, by omega⟩
  exact q_Rel.of rfl rfl (b_Li_livingBetween hd _ _ _ _ σ _ _ h ⟨rfl, rfl⟩)

