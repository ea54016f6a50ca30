/-! The other steps. -/
def q_rt (ty : Option FieldType) (i : Instr) (v : Option Value) : Prop := (i = .ireturn ∧ ∃ x, v = some (.int x) ∧ q_ret ty (.int x)) ∨ (i = .lreturn ∧ ∃ x, v = some (.long x) ∧ ty = some .long) ∨ (i = .areturn ∧ ∃ w, v = some w ∧ (w = .null ∨ ∃ a : Nat, w = .ref a) ∧ ((∃ n, ty = some (.object n)) ∨ ∃ t, ty = some (.array t))) ∨ (i = .return_ ∧ v = none ∧ ty = none)
section
variable {μ : Nat → Nat} {cls : Nat → ClassId} {iS : Nat → Nat → Nat} {X : Nat → ClassId} {B : Nat} {fm : Value}
variable {p : Program} {l : Launch} {e : Env} {R : Room} {s : State} {m : MethodId} {args : Array Value} {below : List Frame} {meth : Method} {c : Code} {Q : State → Prop} {H : Heap} {locs : List Loc} {cells slots : Nat} {L : Array Slot}
variable {M : q_M}
theorem q_pre (hC : q_Ctx μ cls iS X B fm p s m args meth c M) {σ : q_H} (hR : q_Rep μ cls iS X σ H) (hS : va_S (q_A B) s.heap H locs) (as : List Value) (U : State) (hU : U.heap = H) (hW : s.WarmedH U.vm) : q_Pc μ cls iS X B fm as σ (as.map (q_v μ)).toArray U := by
  obtain ⟨hx, hb, hml, hown, hts, hMu, hKn, hXx, hin, hex⟩ := hC
  refine ⟨rfl, by rw [hU]; exact hR, hKn.moved hW.alike, q_X.go hW hXx fun a h1 h2 => ?_⟩
  rw [hU]
  exact hS.2.1 a h1 h2
theorem q_mcat (st : List Value) : ((st.map (q_v μ)).map fun v => v.category).sum = q_cat st := by
  unfold q_cat
  rw [List.map_map]
  congr 1
  exact List.map_congr_left fun v _ => q_v_cat μ v
theorem q_cw_code {M : q_M} (h : M.2.2.2.2.1 = []) : q_cw M = .code M.1 M.2.1 M.2.2.1 M.2.2.2.1 := if_pos h
theorem q_cw_with {M : q_M} (h : ¬ M.2.2.2.2.1 = []) : q_cw M = .codeWith M.1 M.2.1 M.2.2.1 M.2.2.2.1 M.2.2.2.2.1 := if_neg h
theorem q_mlook {Ms : Nat → Option q_M} (hG : q_Good Ms) {z : Nat} {Mz : q_M} (h : Ms z = some Mz) {y : MethodName} (hy : q_yn[z]? = some y) : Mz.1 = y ∧ plainName Mz.1.cls = true ∧ Mz.2.2.1 ≤ 40 ∧ q_cw Mz ∈ q_tbl ∧ Cond.initialized Mz.1.cls ∈ q_tbl ∧ (Mz.1.name = "<init>" → Cond.instanceMethod Mz.1 ∈ q_tbl ∧ Mz.2.2.2.1 = none ∧ Mz.2.2.2.2.1 = []) ∧ q_hchk Mz = true := by
  obtain ⟨ps, hps⟩ := hG z Mz h
  obtain ⟨h1, h2, h3, h4, h5, h6, -, h7⟩ := q_mchk_ok hps
  exact ⟨Option.some.inj (h1.symm.trans hy), h2, h3, h4, h5, h6, h7⟩
/-- a call of a static method -/
theorem q_runS (hC : q_Ctx μ cls iS X B fm p s m args meth c M) {Ms : Nat → Option q_M} (hG : q_Good Ms) {d : Nat} (hRf : d + 1 ≤ R.frames) (hRl : 64 * (d + 1) ≤ R.locals) {pc nx a1 a2 pp idx : Nat} {z : Int} (h990 : ¬ 990 ≤ a1) (hchk : q_rchk M.1.cls M.1.name M.2.1 (pc, .invokestatic idx, nx, a1, a2, z) pp = true) {σ σ1 : q_H} {w : q_O} (hR : q_Rep μ cls iS X σ H) (hS : va_S (q_A B) s.heap H locs) {Mz : q_M} (hz : Ms a1 = some Mz) {as t : List Value} (hn : as.length = a2) (hsn : q_Snd μ cls iS X B fm l d Mz as σ w σ1) (hls : L.size = M.2.2.1) (ht : q_cat t ≤ 8) (hf : cells + (σ1.2.1 - σ.2.1) ≤ R.cells ∧ slots + (σ1.2.2 - σ.2.2) ≤ R.slots) :
    vx_Run p l e R s m args below meth c H locs cells slots (σ1.2.1 - σ.2.1) (σ1.2.2 - σ.2.2) (F0 m pc L ((as.reverse ++ t).map (q_v μ))) (t.map (q_v μ)) (q_Qc μ cls iS X B w σ1 (as.map (q_v μ)).toArray) (q_XC μ cls iS X B w σ1) (q_A B) := by
  have hpre := q_pre hC hR hS as
  obtain ⟨hx, hb, hml, hown, hts, hMu, hKn, hXx, hin, hex⟩ := hC
  obtain ⟨hd, rfl⟩ := q_dk (k := 3) hchk rfl (by decide)
  unfold q_rchk at hchk
  simp only [Bool.and_eq_true] at hchk
  have hc2 := hchk.2
  rw [if_neg h990] at hc2
  cases hy : q_yn[a1]? with
  | none => rw [hy] at hc2; cases hc2
  | some y =>
    rw [hy] at hc2
    simp only [Bool.and_eq_true] at hc2
    obtain ⟨⟨k1, k2⟩, k3⟩ := hc2
    obtain ⟨e1, e2, e3, e4, e5, -, e7⟩ := q_mlook hG hz hy
    obtain ⟨n1, n2⟩ := q_np_ok k2
    have hst : Cond.static y ∈ q_tbl := by
      cases hp : q_pp[a1]? with
      | none => rw [hp] at k3; cases k3
      | some w9 => rw [hp] at k3; exact q_w_in k3
    have hstack : (F0 m pc L ((as.reverse ++ t).map (q_v μ))).stack = (as.map (q_v μ)).reverse ++ t.map (q_v μ) := by
      show (as.reverse ++ t).map (q_v μ) = _
      rw [List.map_append, List.map_reverse]
    have hnn : (as.map (q_v μ)).length = a2 := by rw [List.length_map]; exact hn
    have hcat : 2 * (F0 m pc L ((as.reverse ++ t).map (q_v μ))).monitorRoom + ((t.map (q_v μ)).map fun v => v.category).sum ≤ 8 := lv_room (by rw [q_mcat]; exact ht)
    obtain ⟨-, hM9⟩ := hsn
    have hB := q_callB (R := R) (idx := idx) (n := a2) (d := d) (σ := σ) (σ' := σ1) hts e4 e3 hRf hRl
    subst e1
    by_cases hh : Mz.2.2.2.2.1 = []
    · have hcode : Cond.code Mz.1 Mz.2.1 Mz.2.2.1 Mz.2.2.2.1 ∈ q_cw Mz :: q_tbl := by rw [q_cw_code hh]; exact List.mem_cons_self
      have hcb : (Cond.code Mz.1 Mz.2.1 Mz.2.2.1 Mz.2.2.2.1).before args s = true := by rw [← q_cw_code hh]; exact hts _ e4
      unfold q_lnk at k1
      by_cases hp : pp < 1000000
      · rw [if_pos hp] at k1
        exact vx_runS ⟨hx, hb, hml, hown, hts⟩ hM9 ⟨⟨hB.1, hB.2.1, hB.2.2.1, hB.2.2.2.1, hB.2.2.2.2, hcode, hcb, hts _ e5, n1, n2, hts _ (q_w_in k1)⟩, hts _ hst⟩ ⟨q_Pc_blind as σ, hpre⟩ rfl hnn hls hstack hcat hd hf
      · rw [if_neg hp] at k1
        exact vx_runSN ⟨hx, hb, hml, hown, hts⟩ hM9 ⟨⟨⟨hB.1, hB.2.1, hB.2.2.1, hB.2.2.2.1, hB.2.2.2.2, hcode⟩, hcb, hts _ e5, n1, n2, va_Nw.use rfl (hXx.2.2.2.2.2.2.2 _ (q_wn_in (Bool.and_eq_true_iff.mp k1).1))⟩, hts _ hst, trivial⟩ ⟨q_Pc_blind as σ, hpre⟩ rfl hnn hls hstack hcat hd hf
    · have hcode : Cond.codeWith Mz.1 Mz.2.1 Mz.2.2.1 Mz.2.2.2.1 Mz.2.2.2.2.1 ∈ q_cw Mz :: q_tbl := by rw [q_cw_with hh]; exact List.mem_cons_self
      have hcb : (Cond.codeWith Mz.1 Mz.2.1 Mz.2.2.1 Mz.2.2.2.1 Mz.2.2.2.2.1).before args s = true := by rw [← q_cw_with hh]; exact hts _ e4
      unfold q_lnk at k1
      by_cases hp : pp < 1000000
      · rw [if_pos hp] at k1
        exact vx_runSX ⟨hx, hb, hml, hown, hts⟩ hM9 ⟨⟨hB.1, hB.2.1, hB.2.2.1, hB.2.2.2.1, hB.2.2.2.2, hcode⟩, hcb, hts _ e5, n1, n2, hts _ (q_w_in k1), hts _ hst⟩ ⟨q_Pc_blind as σ, hpre⟩ rfl hnn hls hstack hcat hd hf
      · rw [if_neg hp] at k1
        simp only [Bool.and_eq_true, decide_eq_true_eq] at k1
        refine absurd ?_ k1.2
        unfold q_hchk at e7
        split at e7
        · next h9 => exact absurd h9 hh
        · simp only [Bool.and_eq_true, decide_eq_true_eq] at e7
          exact e7.1.2
        · cases e7
/-- a call of a constructor -/
theorem q_runI (hC : q_Ctx μ cls iS X B fm p s m args meth c M) {Ms : Nat → Option q_M} (hG : q_Good Ms) {d : Nat} (hRf : d + 1 ≤ R.frames) (hRl : 64 * (d + 1) ≤ R.locals) {pc nx a1 a2 pp idx : Nat} {z : Int} (h999 : ¬ a1 = 999) (hchk : q_rchk M.1.cls M.1.name M.2.1 (pc, .invokespecial idx, nx, a1, a2, z) pp = true) {σ σ1 : q_H} {w : q_O} (hR : q_Rep μ cls iS X σ H) (hS : va_S (q_A B) s.heap H locs) {Mz : q_M} (hz : Ms a1 = some Mz) {a : Nat} {as t : List Value} (hn : as.length + 1 = a2) (hsn : q_Snd μ cls iS X B fm l d Mz (.ref a :: as) σ w σ1) (hls : L.size = M.2.2.1) (ht : q_cat t ≤ 8) (hf : cells + (σ1.2.1 - σ.2.1) ≤ R.cells ∧ slots + (σ1.2.2 - σ.2.2) ≤ R.slots) :
    vx_Run p l e R s m args below meth c H locs cells slots (σ1.2.1 - σ.2.1) (σ1.2.2 - σ.2.2) (F0 m pc L (((.ref a :: as).reverse ++ t).map (q_v μ))) (t.map (q_v μ)) (q_Qc μ cls iS X B w σ1 ((.ref a :: as).map (q_v μ)).toArray) (q_XC μ cls iS X B w σ1) (q_A B) := by
  have hpre := q_pre hC hR hS (.ref a :: as)
  obtain ⟨hx, hb, hml, hown, hts, hMu, hKn, hXx, hin, hex⟩ := hC
  obtain ⟨hd, rfl⟩ := q_dk (k := 3) hchk rfl (by decide)
  unfold q_rchk at hchk
  simp only [Bool.and_eq_true] at hchk
  have hc2 := hchk.2
  rw [if_neg h999] at hc2
  cases hy : q_yn[a1]? with
  | none => rw [hy] at hc2; cases hc2
  | some y =>
    rw [hy] at hc2
    simp only [Bool.and_eq_true, decide_eq_true_eq] at hc2
    obtain ⟨⟨⟨k1, k2⟩, k3⟩, k4⟩ := hc2
    obtain ⟨e1, e2, e3, e4, e5, e6, e7⟩ := q_mlook hG hz hy
    obtain ⟨n1, n2⟩ := q_np_ok k2
    subst e1
    obtain ⟨hst, hret, hh⟩ := e6 k4
    have hstack : (F0 m pc L (((.ref a :: as).reverse ++ t).map (q_v μ))).stack = (as.map (q_v μ)).reverse ++ .ref (μ a) :: t.map (q_v μ) := by
      show ((.ref a :: as).reverse ++ t).map (q_v μ) = _
      simp [q_v]
    have hnn : (as.map (q_v μ)).length = a2 - 1 := by rw [List.length_map]; omega
    have hcat : 2 * (F0 m pc L (((.ref a :: as).reverse ++ t).map (q_v μ))).monitorRoom + ((t.map (q_v μ)).map fun v => v.category).sum ≤ 8 := lv_room (by rw [q_mcat]; exact ht)
    obtain ⟨-, hM9⟩ := hsn
    have hB := q_callB (R := R) (idx := idx) (n := a2) (d := d) (σ := σ) (σ' := σ1) hts e4 e3 hRf hRl
    · have hcode : Cond.code Mz.1 Mz.2.1 Mz.2.2.1 none ∈ q_cw Mz :: q_tbl := by rw [q_cw_code hh, hret]; exact List.mem_cons_self
      have hcb : (Cond.code Mz.1 Mz.2.1 Mz.2.2.1 none).before args s = true := by rw [← hret, ← q_cw_code hh]; exact hts _ e4
      unfold q_lnk at k1
      by_cases hp : pp < 1000000
      · rw [if_pos hp] at k1
        exact vx_runI ⟨hx, hb, hml, hown, hts⟩ hM9 ⟨⟨hB.1, hB.2.1, hB.2.2.1, hB.2.2.2.1, hB.2.2.2.2, hcode, hcb, hts _ e5, n1, n2, hts _ (q_w_in k1)⟩, k4, hts _ hst⟩ ⟨q_Pc_blind _ σ, hpre⟩ rfl hnn hls hstack hcat hd hf
      · rw [if_neg hp] at k1
        simp only [Bool.and_eq_true] at k1
        exact vx_runIN ⟨hx, hb, hml, hown, hts⟩ hM9 ⟨⟨⟨hB.1, hB.2.1, hB.2.2.1, hB.2.2.2.1, hB.2.2.2.2, hcode⟩, hcb, hts _ e5, n1, n2, va_Nw.use rfl (hXx.2.2.2.2.2.2.2 _ (q_wn_in k1.1))⟩, k4, hts _ hst⟩ ⟨q_Pc_blind _ σ, hpre⟩ rfl hnn hls hstack hcat hd hf
/-- a call by the receiver's class -/
theorem q_runV (hC : q_Ctx μ cls iS X B fm p s m args meth c M) {Ms : Nat → Option q_M} (hG : q_Good Ms) {d : Nat} (hRf : d + 1 ≤ R.frames) (hRl : 64 * (d + 1) ≤ R.locals) {pc nx a1 a2 pp idx : Nat} {z : Int} (hchk : q_rchk M.1.cls M.1.name M.2.1 (pc, .invokevirtual idx, nx, a1, a2, z) pp = true) {σ σ1 : q_H} {w : q_O} (hR : q_Rep μ cls iS X σ H) (hS : va_S (q_A B) s.heap H locs) {Mz : q_M} (hz : Ms a1 = some Mz) {a : Nat} {as t : List Value} {c9 : q_C} (ha : σ.1 a = some c9) (hac : q_ct[c9.1]?.map (fun q => q.1) = some Mz.1.cls ∨ (c9.1 = 13 ∧ Mz.1.cls = "java/lang/String")) (hn : as.length + 1 = a2) (hsn : q_Snd μ cls iS X B fm l d Mz (.ref a :: as) σ w σ1) (hls : L.size = M.2.2.1) (ht : q_cat t ≤ 8) (hf : cells + (σ1.2.1 - σ.2.1) ≤ R.cells ∧ slots + (σ1.2.2 - σ.2.2) ≤ R.slots) :
    vx_Run p l e R s m args below meth c H locs cells slots (σ1.2.1 - σ.2.1) (σ1.2.2 - σ.2.2) (F0 m pc L (((.ref a :: as).reverse ++ t).map (q_v μ))) (t.map (q_v μ)) (q_Qc μ cls iS X B w σ1 ((.ref a :: as).map (q_v μ)).toArray) (q_XC μ cls iS X B w σ1) (q_A B) := by
  have hpre := q_pre hC hR hS (.ref a :: as)
  obtain ⟨hx, hb, hml, hown, hts, hMu, hKn, hXx, hin, hex⟩ := hC
  obtain ⟨hd, rfl⟩ := q_dk (k := 3) hchk rfl (by decide)
  unfold q_rchk at hchk
  simp only [Bool.and_eq_true] at hchk
  have hc2 := hchk.2
  cases hy : q_yn[a1]? with
  | none => rw [hy] at hc2; cases hc2
  | some y =>
    rw [hy] at hc2
    simp only [Bool.and_eq_true, decide_eq_true_eq] at hc2
    obtain ⟨⟨⟨k1, k2⟩, k3⟩, k4⟩ := hc2
    obtain ⟨e1, e2, e3, e4, e5, e6, e7⟩ := q_mlook hG hz hy
    obtain ⟨n1, n2⟩ := q_np_ok k2
    subst e1
    obtain ⟨hst, hsel⟩ : Cond.instanceMethod Mz.1 ∈ q_tbl ∧ Cond.selects Mz.1.cls Mz.1 Mz.1 ∈ q_tbl := by
      cases hp : q_pp[a1]? with
      | none => rw [hp] at k4; cases k4
      | some w9 =>
        rw [hp] at k4
        simp only [Bool.and_eq_true] at k4
        exact ⟨q_w_in k4.1, q_w_in k4.2⟩
    have hstack : (F0 m pc L (((.ref a :: as).reverse ++ t).map (q_v μ))).stack = (as.map (q_v μ)).reverse ++ .ref (μ a) :: t.map (q_v μ) := by
      show ((.ref a :: as).reverse ++ t).map (q_v μ) = _
      simp [q_v]
    have hnn : (as.map (q_v μ)).length = a2 - 1 := by rw [List.length_map]; omega
    have hcat : 2 * (F0 m pc L (((.ref a :: as).reverse ++ t).map (q_v μ))).monitorRoom + ((t.map (q_v μ)).map fun v => v.category).sum ≤ 8 := lv_room (by rw [q_mcat]; exact ht)
    have hrecv : ∃ cellB : Cell, H[μ a]? = some cellB ∧ cellB.vm.isStatics = false ∧ s.vm.findClass Mz.1.cls = some cellB.cls := by
      rcases hac with hac | ⟨hac, hac2⟩
      · cases hq : q_ct[c9.1]? with
        | none => rw [hq] at hac; cases hac
        | some q =>
          rw [hq] at hac
          have hac : q.1 = Mz.1.cls := Option.some.inj hac
          obtain ⟨t9, vs⟩ := c9
          obtain ⟨-, cell, g1, g2, g3, -⟩ := (hR.2.2 a _ ha).2.obj hq
          obtain ⟨g4, -⟩ := (hKn.1 _ _ hq).2
          exact ⟨cell, g1, by rw [g3]; rfl, by rw [← hac, g2]; exact g4⟩
      · rcases (hR.2.2 a _ ha).2 with ⟨q, g1, -⟩ | ⟨ty, cell, g1, -⟩ | ⟨g1, g2, g3⟩
        · have g3 := (List.getElem?_eq_some_iff.mp g1).1
          rw [hac] at g3
          simp [q_ct] at g3
        · rw [hac] at g1
          exact absurd g1 (by simp [q_aty])
        · obtain ⟨-, -, -, ⟨h4, h5, h6⟩, -⟩ := hXx
          have hs9 : q_str μ B s s.heap a := by
            have e9 : a = 2 ∨ a = 3 ∨ a = 4 := by omega
            rcases e9 with rfl | rfl | rfl
            · exact h4
            · exact h5
            · exact h6
          obtain ⟨-, -, s3, cell, s4, s5, s6⟩ := hs9
          refine ⟨cell, ?_, s5, by rw [hac2]; exact s6⟩
          rw [hS.2.1 _ (Array.getElem?_eq_some_iff.mp s4).1 s3]
          exact s4
    obtain ⟨-, hM9⟩ := hsn
    have hB := q_callB (R := R) (idx := idx) (n := a2) (d := d) (σ := σ) (σ' := σ1) hts e4 e3 hRf hRl
    by_cases hh : Mz.2.2.2.2.1 = []
    · have hcode : Cond.code Mz.1 Mz.2.1 Mz.2.2.1 Mz.2.2.2.1 ∈ q_cw Mz :: q_tbl := by rw [q_cw_code hh]; exact List.mem_cons_self
      have hcb : (Cond.code Mz.1 Mz.2.1 Mz.2.2.1 Mz.2.2.2.1).before args s = true := by rw [← q_cw_code hh]; exact hts _ e4
      exact vx_runV (C := Mz.1.cls) ⟨hx, hb, hml, hown, hts⟩ hM9 ⟨⟨hB.1, hB.2.1, hB.2.2.1, hB.2.2.2.1, hB.2.2.2.2, hcode, hcb, hts _ e5, n1, n2, hts _ (q_w_in k1)⟩, hts _ hst, hts _ hsel⟩ ⟨q_Pc_blind _ σ, hrecv, hpre⟩ rfl hnn hls hstack hcat hd hf
    · have hcode : Cond.codeWith Mz.1 Mz.2.1 Mz.2.2.1 Mz.2.2.2.1 Mz.2.2.2.2.1 ∈ q_cw Mz :: q_tbl := by rw [q_cw_with hh]; exact List.mem_cons_self
      have hcb : (Cond.codeWith Mz.1 Mz.2.1 Mz.2.2.1 Mz.2.2.2.1 Mz.2.2.2.2.1).before args s = true := by rw [← q_cw_with hh]; exact hts _ e4
      exact vx_runVX (C := Mz.1.cls) ⟨hx, hb, hml, hown, hts⟩ hM9 ⟨⟨hB.1, hB.2.1, hB.2.2.1, hB.2.2.2.1, hB.2.2.2.2, hcode⟩, hcb, hts _ e5, n1, n2, hts _ (q_w_in k1), hts _ hst, hts _ hsel⟩ ⟨q_Pc_blind _ σ, hrecv, hpre⟩ rfl hnn hls hstack hcat hd hf
end
