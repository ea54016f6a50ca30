/-! Methods of the class: functions on the small heap, and their walks: by program. -/
def f_Rs_read (v0 : Nat) (v1 : Int32) (σ : q_H) : Option ((Int32) × q_H) := (q_gr (q_gf σ 0 v0 3)).bind fun x1 => (q_ob σ 2 x1).bind fun w2 => q_sq (f_Sf_isTold x1 v1 σ) fun x4 σ3 => if x4 = (0 : Int32) then ((q_gr (q_gf σ3 0 v0 0)).bind fun x6 => (q_sf σ3 1 x6 1 (.int (0 : Int32))).bind fun σ7 => some ((-1 : Int32), σ7)) else (q_ma σ3 7 [.null, .null, .null] fun σ8 a9 => (q_gr (q_gf σ8 0 v0 0)).bind fun x10 => (q_gr (q_gf σ8 0 v0 1)).bind fun x11 => q_sq (f_Sr_init a9 x10 x11 σ8) fun (_ : Unit) σ12 => (q_ob σ12 7 a9).bind fun w14 => q_sq (f_Sr_parse a9 σ12) fun x16 σ15 => (q_gr (q_gf σ15 0 v0 0)).bind fun x17 => (q_sf σ15 1 x17 1 (.int (0 : Int32))).bind fun σ18 => if x16 = (0 : Int32) then ((q_gr (q_gf σ18 7 a9 2)).bind fun x20 => (q_ob σ18 8 x20).bind fun w21 => q_sq (f_Pa_settle x20 σ18) fun (_ : Unit) σ22 => (q_gr (q_gf σ22 0 v0 3)).bind fun x24 => (q_gr (q_gf σ22 2 x24 4)).bind fun x25 => (q_gr (q_gf σ22 7 a9 2)).bind fun x26 => (q_ob σ22 8 x26).bind fun w28 => (q_sa σ22 25 x25 v1 (.ref x26)).bind fun σ27 => (q_gr (q_gf σ27 0 v0 6)).bind fun x29 => (q_sf σ27 3 x29 0 (.int (1 : Int32))).bind fun σ30 => some (x16, σ30)) else (some (x16, σ18)))
set_option maxRecDepth 100000 in
theorem b_Rs_read {fo : Option Nat} {d : Nat} (hd : 9 ≤ d + 1) {o : q_O} {σ' : q_H} (v0 : Nat) (v1 : Int32) (σ : q_H) : q_J (fun (r : Int32) (σ1 : q_H) => o = .inl (some (.int r)) ∧ σ' = σ1) (f_Rs_read v0 v1 σ) (q_G (q_rf fo) d m_Rs_read o σ' 0 [some (.ref v0), some (.int v1), none, none] [] σ) := by
  unfold f_Rs_read
  refine J_bind fun x1 hx1 => ?_
  refine J_bind fun w2 hw2 => ?_
  refine J_cl fun x4 σ3 hσ3 => ?_
  refine q_J.step (fun g => j_aload_n rfl rfl (j_gfr rfl hx1 (j_iload_n rfl rfl (j_v1 [.ref x1, .int v1] [] rfl rfl rfl rfl rfl rfl hw2 (Or.inl rfl) (t_Sf_isTold (by omega) hσ3) (g))))) ?_
  refine J_ite (fun h5 => ?_) (fun h5 => ?_)
  · refine J_bind fun x6 hx6 => ?_
    refine J_bind fun σ7 hσ7 => ?_
    exact J_some (fun h => j_if_f rfl (cc_ne_f h5) (j_aload_n rfl rfl (j_gfr rfl hx6 (j_iconst (0 : Int32) rfl k32_0 (j_putf rfl rfl rfl rfl hσ7 (j_iconst (-1 : Int32) rfl k32_m1 (j_iret rfl rfl h)))))))
  refine J_ma fun σ8 a9 hσ8 ha9 => ?_
  refine J_bind fun x10 hx10 => ?_
  refine J_bind fun x11 hx11 => ?_
  refine J_cl fun _ σ12 hσ12 => ?_
  refine J_bind fun w14 hw14 => ?_
  refine J_cl fun x16 σ15 hσ15 => ?_
  refine J_bind fun x17 hx17 => ?_
  refine J_bind fun σ18 hσ18 => ?_
  refine q_J.step (fun g => j_if_t rfl (cc_ne_t h5) (j_newk2 [.null, .null, .null] rfl rfl rfl hσ8 ha9 (j_dup rfl rfl (j_aload_n rfl rfl (j_gfr rfl hx10 (j_aload_n rfl rfl (j_gfr rfl hx11 (j_i0 [.ref a9, .ref x10, .ref x11] [.ref a9] rfl rfl rfl rfl rfl rfl (t_Sr_init (by omega) hσ12) (j_astore_n [some (.ref v0), some (.int v1), some (.ref a9), none] rfl rfl (Or.inr rfl) rfl (j_aload_n rfl rfl (j_v1 [.ref a9] [] rfl rfl rfl rfl rfl rfl hw14 (Or.inl rfl) (t_Sr_parse (by omega) hσ15) (j_istore_n [some (.ref v0), some (.int v1), some (.ref a9), some (.int x16)] rfl rfl (Or.inr rfl) rfl (j_aload_n rfl rfl (j_gfr rfl hx17 (g))))))))))))))) ?_
  refine q_J.step (fun g => j_iconst (0 : Int32) rfl k32_0 (j_putf rfl rfl rfl rfl hσ18 (j_iload_n rfl rfl (g)))) ?_
  refine J_ite (fun h19 => ?_) (fun h19 => ?_)
  · refine J_bind fun x20 hx20 => ?_
    refine J_bind fun w21 hw21 => ?_
    refine J_cl fun _ σ22 hσ22 => ?_
    refine J_bind fun x24 hx24 => ?_
    refine J_bind fun x25 hx25 => ?_
    refine J_bind fun x26 hx26 => ?_
    refine J_bind fun w28 hw28 => ?_
    refine J_bind fun σ27 hσ27 => ?_
    refine J_bind fun x29 hx29 => ?_
    refine J_bind fun σ30 hσ30 => ?_
    exact J_some (fun h => j_if_f rfl (cc_ne_f h19) (j_aload_n rfl rfl (j_gfr rfl hx20 (j_v0 [.ref x20] [] rfl rfl rfl rfl rfl rfl hw21 (Or.inl rfl) (t_Pa_settle (by omega) hσ22) (j_aload_n rfl rfl (j_gfr rfl hx24 (j_gfr rfl hx25 (j_iload_n rfl rfl (j_aload_n rfl rfl (j_gfr rfl hx26 (j_aas rfl (Or.inl ⟨rfl, rfl⟩) (Or.inr ⟨_, _, rfl, q_ob_some.mp hw28⟩) hσ27 (j_aload_n rfl rfl (j_gfr rfl hx29 (j_iconst (1 : Int32) rfl k32_1 (j_putf rfl rfl (by decide) rfl hσ30 (j_iload_n rfl rfl (j_iret rfl rfl h)))))))))))))))))
  exact J_some (fun h => j_if_t rfl (cc_ne_t h19) (j_iload_n rfl rfl (j_iret rfl rfl h)))
theorem t_Rs_read {fo : Option Nat} {d : Nat} (hd : 9 ≤ d) {v0 : Nat} {v1 : Int32} {σ σ1 : q_H} {r : Int32} (h : f_Rs_read v0 v1 σ = some (r, σ1)) : q_Rel (q_rf fo) q_Ms d 111 [.ref v0, .int v1] σ (.inl (some (.int r))) σ1 := by
  obtain ⟨d, rfl⟩ : ∃ d1, d = d1 + 1 := ⟨d - 1, by omega⟩
  exact q_Rel.of rfl rfl (b_Rs_read hd _ _ σ _ _ h ⟨rfl, rfl⟩)

