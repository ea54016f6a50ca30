/-! A run of the small machine is a walk of the machine. -/
theorem q_obj1 : Cond.instanceMethod Lib.objectInit ∈ q_tbl := q_w_in (i := 130) (by decide +kernel)
theorem q_obj2 : Cond.code Lib.objectInit ⟨#[0xb1]⟩ 1 none ∈ q_tbl := q_w_in (i := 131) (by decide +kernel)
theorem q_cast9 : Cond.castable "java/util/NoSuchElementException" "java/util/NoSuchElementException" ∈ q_nw := q_wn_in (i := 1121) (by decide +kernel)
theorem q_m0 : Cond.initialized "java/lang/Math" ∈ q_tbl := q_w_in (i := 116) (by decide +kernel)
theorem q_m1 : Cond.static Lib.Math.max.name ∈ q_tbl ∧ Cond.code Lib.Math.max.name Lib.Math.max.code 2 (some .int) ∈ q_tbl := ⟨q_w_in (i := 570) (by decide +kernel), q_w_in (i := 571) (by decide +kernel)⟩
theorem q_m2 : Cond.static Lib.Math.min.name ∈ q_tbl ∧ Cond.code Lib.Math.min.name Lib.Math.min.code 2 (some .int) ∈ q_tbl := ⟨q_w_in (i := 573) (by decide +kernel), q_w_in (i := 574) (by decide +kernel)⟩
theorem q_m3 : Cond.static Lib.Math.abs.name ∈ q_tbl ∧ Cond.code Lib.Math.abs.name Lib.Math.abs.code 1 (some .int) ∈ q_tbl := ⟨q_w_in (i := 984) (by decide +kernel), q_w_in (i := 985) (by decide +kernel)⟩
theorem q_m4 : Cond.static Lib.MathLoose.abs_long.x ∈ q_tbl ∧ Cond.code Lib.MathLoose.abs_long.x Lib.MathLoose.abs_long.code 2 (some .long) ∈ q_tbl := ⟨q_w_in (i := 767) (by decide +kernel), q_w_in (i := 768) (by decide +kernel)⟩
theorem q_m5 : Cond.static Lib.MathLoose.max_long.x ∈ q_tbl ∧ Cond.code Lib.MathLoose.max_long.x Lib.MathLoose.max_long.code 4 (some .long) ∈ q_tbl := ⟨q_w_in (i := 773) (by decide +kernel), q_w_in (i := 774) (by decide +kernel)⟩
theorem q_yn_len : q_yn.length = 286 := by decide +kernel
theorem q_yn_999 : q_yn[999]? = none := by decide +kernel
section
variable {μ : Nat → Nat} {cls : Nat → ClassId} {iS : Nat → Nat → Nat} {X : Nat → ClassId} {B : Nat} {fm : Value}
variable {p : Program} {l : Launch} {e : Env} {R : Room} {s : State} {m : MethodId} {args : Array Value} {below : List Frame} {meth : Method} {c : Code} {Q : State → Prop}
variable {M : q_M} {Ms : Nat → Option q_M} {C : Nat → List Value → q_H → q_O → q_H → Prop} {d : Nat} {o : q_O} {σ0 σ' : q_H}
variable (μ cls iS X B p l e R s m args below meth c Q M o σ0 σ') in
def q_End : Prop := ∀ (v : Option Value) (H1 : Heap) (locs1 : List Loc) (L1 : Array Slot) (pc1 : Nat) (i9 : Instr), o = .inl v → q_Rep μ cls iS X σ' H1 → va_S (q_A B) s.heap H1 locs1 → decode M.2.1 pc1 = .ok (i9, 1) → q_rt M.2.2.2.1 i9 v → W p l e R s m args below meth c H1 locs1 (σ'.2.1 - σ0.2.1) (σ'.2.2 - σ0.2.2) Q (F0 m pc1 L1 (v.map (q_v μ)).toList)
variable (μ cls iS X B p l e R s m args below meth c Q M o σ0 σ' d) in
def q_Thr : Prop := ∀ (H1 : Heap) (locs1 : List Loc) (L1 : Array Slot) (pc1 : Nat) (st1 : List Value) (σ1 : q_H), q_Rep μ cls iS X σ1 H1 → va_S (q_A B) s.heap H1 locs1 → q_lt σ0 σ1 → (∃ q, o = .inr q) → σ' = (σ1.1, σ1.2.1 + 1, σ1.2.2 + 6) → L1.size = M.2.2.1 → M.1.cls = "ReedSheets" → decode M.2.1 pc1 = .ok (.new 148, 3) → decode M.2.1 (pc1 + 3) = .ok (.dup, 1) → decode M.2.1 (pc1 + 4) = .ok (.invokespecial 150, 3) → decode M.2.1 (pc1 + 7) = .ok (.athrow, 1) → 6 ≤ d + 1 → q_cat st1 ≤ 8 → M.2.2.2.2.1 = [] → W p l e R s m args below meth c H1 locs1 (σ1.2.1 - σ0.2.1) (σ1.2.2 - σ0.2.2) Q (F0 m pc1 L1 (st1.map (q_v μ)))
theorem q_step (hC : q_Ctx μ cls iS X B fm p s m args meth c M) (hG : q_Good Ms) (hh : q_hchk M = true) (hUU : σ'.2.1 < q_U) (hRc : σ'.2.1 - σ0.2.1 ≤ R.cells) (hRs : σ'.2.2 - σ0.2.2 ≤ R.slots) (hRf : d + 1 ≤ R.frames) (hRl : 64 * (d + 1) ≤ R.locals)
    (hCm : ∀ z as σ w σ1, C z as σ w σ1 → q_lt σ σ1) (hCall : ∀ z as σ w σ1 Mz, C z as σ w σ1 → Ms z = some Mz → σ1.2.1 < q_U → q_Snd μ cls iS X B fm l d Mz as σ w σ1) (hEnd : q_End μ cls iS X B p l e R s m args below meth c Q M o σ0 σ') (hThr : q_Thr μ cls iS X B p l e R s m args below meth c Q M d o σ0 σ') {K : Nat → q_L → List Value → q_H → Prop} (hKm : ∀ pc ls st σ1, K pc ls st σ1 → q_lt σ1 σ')
    (go : ∀ (pc' : Nat) (ls' : q_L) (st' : List Value) (σ1 : q_H) (H1 : Heap) (locs1 : List Loc) (cells1 slots1 : Nat) (L1 : Array Slot), ls'.length = M.2.2.1 → K pc' ls' st' σ1 → q_Rep μ cls iS X σ1 H1 → va_S (q_A B) s.heap H1 locs1 → cells1 = σ1.2.1 - σ0.2.1 → slots1 = σ1.2.2 - σ0.2.2 → q_lt σ0 σ1 → lv_has L1 M.2.2.1 (q_al μ 0 ls') → W p l e R s m args below meth c H1 locs1 cells1 slots1 Q (F0 m pc' L1 (st'.map (q_v μ))))
    {H : Heap} {locs : List Loc} {cells slots : Nat} {L : Array Slot} {pc nx a1 a2 pp : Nat} {i : Instr} {z : Int} {ls : q_L} {st : List Value} {σ : q_H} (hlk : q_lk M.2.2.2.2.2 pc = some (pc, i, nx, a1, a2, z)) (hsk : ∃ ps, q_rsk M.1.cls M.1.name M.2.1 M.2.2.2.2.2 ps = true) (hchk : q_rchk M.1.cls M.1.name M.2.1 (pc, i, nx, a1, a2, z) pp = true) (hR : q_Rep μ cls iS X σ H) (hS : va_S (q_A B) s.heap H locs) (hcells : cells = σ.2.1 - σ0.2.1) (hslots : slots = σ.2.2 - σ0.2.2) (h0 : q_lt σ0 σ) (hl : lv_has L M.2.2.1 (q_al μ 0 ls)) (hln : ls.length = M.2.2.1)
    (h : q_one fm Ms C (d + 1) M (pc, i, nx, a1, a2, z) K ls st σ o σ') : W p l e R s m args below meth c H locs cells slots Q (F0 m pc L (st.map (q_v μ))) := by
  have hmono : q_lt σ σ' := q_one_mono hCm hKm h
  by_cases hs1 : q_s1 i = true
  · exact q_step1 hC hchk hR hS hl hln (fun pc' ls' st' L1 g1 g2 g3 => go pc' ls' st' σ H locs cells slots L1 g1 g2 hR hS hcells hslots h0 g3) hs1 h
  have hC0 := hC
  obtain ⟨hx, hb, hml, hown, hts, hMu, hKn, hXx, hin, hex⟩ := hC
  have room1 : ∀ (t : Nat) (vs : List Value) (pc' : Nat) (ls' : q_L) (st' : List Value), K pc' ls' st' (q_mk σ t vs) → cells + 1 ≤ R.cells ∧ slots + vs.length ≤ R.slots ∧ q_lt σ0 (q_mk σ t vs) ∧ cells + 1 = (q_mk σ t vs).2.1 - σ0.2.1 ∧ slots + vs.length = (q_mk σ t vs).2.2 - σ0.2.2 := by
    intro t vs pc' ls' st' hk
    have g1 := hKm _ _ _ _ hk
    have g2 : σ.2.1 + 1 ≤ σ'.2.1 := g1.1
    have g3 : σ.2.2 + vs.length ≤ σ'.2.2 := g1.2
    have g4 := h0.1
    have g5 := h0.2
    refine ⟨by omega, by omega, h0.tr (q_lt.mk _ _ _), ?_, ?_⟩
    · show cells + 1 = σ.2.1 + 1 - σ0.2.1
      omega
    · show slots + vs.length = σ.2.2 + vs.length - σ0.2.2
      omega
  have cstore : ∀ {σ1 : q_H}, σ1.2 = σ.2 → q_lt σ0 σ1 ∧ cells = σ1.2.1 - σ0.2.1 ∧ slots = σ1.2.2 - σ0.2.2 := fun {σ1} he => by
    unfold q_lt
    rw [he]
    exact ⟨h0, hcells, hslots⟩
  have csa : ∀ {σ1 : q_H} {t a : Nat} {j : Int32} {v : Value}, q_sa σ t a j v = some σ1 → σ1.2 = σ.2 := fun hq => by
    obtain ⟨-, vs, -, -, -, rfl⟩ := q_sa_some hq
    rfl
  cases i with
  | putfield idx =>
    obtain ⟨hd, rfl⟩ := q_dk (k := 3) hchk rfl (by decide)
    obtain ⟨a, v, t, ty, f, σ1, rfl, h1, h2, h3, h4, h5, h6⟩ := h
    unfold q_rchk at hchk
    simp only [Bool.and_eq_true] at hchk
    have hc2 := hchk.2
    cases hq : q_ct[a1]? with
    | none => rw [hq] at hc2; cases hc2
    | some q =>
      rw [hq] at hc2
      simp only [Bool.and_eq_true, decide_eq_true_eq] at hc2
      obtain ⟨⟨⟨c1, c2⟩, c3⟩, c4⟩ := hc2
      have e5 : σ1.2 = σ.2 := by
        obtain ⟨vs, -, -, -, rfl⟩ := q_sf_some h5
        rfl
      obtain ⟨g1, g2, g3⟩ := cstore e5
      have hnv : narrow (f a2) (q_v μ v) = q_v μ v := by
        rw [show f a2 = ty from h2]
        cases v <;> first | exact h3 | (cases ty <;> rfl)
      have hfv : fits (f a2) (q_v μ v) = true := by
        rw [show f a2 = ty from h2]
        cases v <;> first | exact h4 | (cases ty <;> first | rfl | exact h4)
      exact q_putf hx hb hts hown hMu hKn hR hS hq h1 c1 (q_w_in c3) c2 (fun h9 => ⟨hin (c4 h9).1, (c4 h9).2⟩) hnv hfv h5 hd fun H1 locs1 r1 r2 => go _ _ _ _ _ _ _ _ _ hln h6 r1 r2 g2 g3 g1 hl
  | iastore =>
    obtain ⟨hd, rfl⟩ := q_dk (k := 1) hchk rfl (by decide)
    obtain ⟨a, i, x, t, σ1, rfl, h1, h2⟩ := h
    obtain ⟨g1, g2, g3⟩ := cstore (csa h1)
    obtain ⟨cell, k1, k2, k3, k4, k5, k6, k7, k8⟩ := q_sv (ty := .int) hMu hKn hR rfl h1
    exact W.iast hx hb k1 k2 k3 k6 rfl rfl hd fun H1 e1 e2 e3 => go _ _ _ _ _ _ _ _ _ hln h2 (k8 _ e1 e2 e3) (q_S_put hS k7 e2 e3) g2 g3 g1 hl
  | lastore =>
    obtain ⟨hd, rfl⟩ := q_dk (k := 1) hchk rfl (by decide)
    obtain ⟨a, i, x, t, σ1, rfl, h1, h2⟩ := h
    obtain ⟨g1, g2, g3⟩ := cstore (csa h1)
    obtain ⟨cell, k1, k2, k3, k4, k5, k6, k7, k8⟩ := q_sv (ty := .long) hMu hKn hR rfl h1
    exact W.last hx hb k1 k2 k3 k6 rfl rfl hd fun H1 e1 e2 e3 => go _ _ _ _ _ _ _ _ _ hln h2 (k8 _ e1 e2 e3) (q_S_put hS k7 e2 e3) g2 g3 g1 hl
  | bastore =>
    obtain ⟨hd, rfl⟩ := q_dk (k := 1) hchk rfl (by decide)
    obtain ⟨a, i, x, t, σ1, rfl, h01, h1, h2⟩ := h
    obtain ⟨g1, g2, g3⟩ := cstore (csa h1)
    obtain ⟨cell, k1, k2, k3, k4, k5, k6, k7, k8⟩ := q_sv (ty := .boolean) hMu hKn hR rfl h1
    have hnar : narrow .boolean (.int x) = .int x := by rcases h01 with rfl | rfl <;> rfl
    exact W.zast hx hb k1 k2 k3 k6 rfl rfl hd fun H1 e1 e2 e3 => go _ _ _ _ _ _ _ _ _ hln h2 (k8 _ (by rw [hnar] at e1; exact e1) e2 e3) (q_S_put hS k7 e2 e3) g2 g3 g1 hl
  | castore =>
    obtain ⟨hd, rfl⟩ := q_dk (k := 1) hchk rfl (by decide)
    obtain ⟨a, i, x, t, σ1, rfl, h01, h1, h2⟩ := h
    obtain ⟨g1, g2, g3⟩ := cstore (csa h1)
    obtain ⟨cell, k1, k2, k3, k4, k5, k6, k7, k8⟩ := q_sv (ty := .char) hMu hKn hR rfl h1
    exact W.cast hx hb k1 k2 k3 k6 rfl rfl hd fun H1 e1 e2 e3 => go _ _ _ _ _ _ _ _ _ hln h2 (k8 _ (by rw [h01] at e1; exact e1) e2 e3) (q_S_put hS k7 e2 e3) g2 g3 g1 hl
  | aastore =>
    obtain ⟨hd, rfl⟩ := q_dk (k := 1) hchk rfl (by decide)
    obtain ⟨a, i, v, t, σ1, rfl, hk, hv, h1, h2⟩ := h
    obtain ⟨g1, g2, g3⟩ := cstore (csa h1)
    rcases hk with ⟨e1, e2⟩ | ⟨e1, e2⟩ | ⟨e1, e2⟩
    · have e1 : a1 = 25 := e1
      have e2 : a2 = 8 := e2
      subst e1; subst e2
      exact q_aast hx hb hMu hKn hR hS (t := 25) (t2 := 8) rfl rfl hv h1 hd fun H1 locs1 r1 r2 => go _ _ _ _ _ _ _ _ _ hln h2 r1 r2 g2 g3 g1 hl
    · have e1 : a1 = 26 := e1
      have e2 : a2 = 2 := e2
      subst e1; subst e2
      exact q_aast hx hb hMu hKn hR hS (t := 26) (t2 := 2) rfl rfl hv h1 hd fun H1 locs1 r1 r2 => go _ _ _ _ _ _ _ _ _ hln h2 r1 r2 g2 g3 g1 hl
    · have e1 : a1 = 27 := e1
      have e2 : a2 = 6 := e2
      subst e1; subst e2
      exact q_aast hx hb hMu hKn hR hS (t := 27) (t2 := 6) rfl rfl hv h1 hd fun H1 locs1 r1 r2 => go _ _ _ _ _ _ _ _ _ hln h2 r1 r2 g2 g3 g1 hl
  | newarray at9 =>
    obtain ⟨hd, rfl⟩ := q_dk (k := 2) hchk rfl (by decide)
    obtain ⟨n, t, ty, rfl, h1, h2, h3, h4⟩ := h
    unfold q_rchk at hchk
    simp only [Bool.and_eq_true, decide_eq_true_eq] at hchk
    have h1 : q_aty a1 = some ty := h1
    cases Option.some.inj (h1.symm.trans hchk.2.1)
    obtain ⟨r1, r2, r3, r4, r5⟩ := room1 _ _ _ _ _ h4
    rw [List.length_replicate] at r2 r5
    exact q_newa hx hb hts hMu hKn hR (Nat.lt_of_le_of_lt (hKm _ _ _ _ h4).1 hUU) hS hchk.2.1 (q_w_in hchk.2.2) h2 h3 r1 r2 hd fun H1 g1 g2 => go _ _ _ _ _ _ _ _ _ hln h4 g1 g2 r4 r5 r3 hl
  | anewarray idx =>
    obtain ⟨hd, rfl⟩ := q_dk (k := 3) hchk rfl (by decide)
    obtain ⟨n, t, rfl, h2, h3, h4⟩ := h
    unfold q_rchk at hchk
    simp only [Bool.and_eq_true] at hchk
    have hc2 := hchk.2
    obtain ⟨r1, r2, r3, r4, r5⟩ := room1 _ _ _ _ _ h4
    rw [List.length_replicate] at r2 r5
    obtain ⟨-, -, -, -, -, -, ⟨w1, w2, w3, -⟩, -⟩ := hXx
    have hk := fun H1 g1 g2 => go _ _ _ _ H1 locs _ _ _ hln h4 g1 g2 r4 r5 r3 hl
    split at hc2
    · exact q_newr hx hb hown (hts _ (q_w_in hc2)) w1 hMu hKn hR (Nat.lt_of_le_of_lt (hKm _ _ _ _ h4).1 hUU) hS (t := 25) rfl h2 h3 r1 r2 hd hk
    · exact q_newr hx hb hown (hts _ (q_w_in hc2)) w2 hMu hKn hR (Nat.lt_of_le_of_lt (hKm _ _ _ _ h4).1 hUU) hS (t := 26) rfl h2 h3 r1 r2 hd hk
    · exact q_newr hx hb hown (hts _ (q_w_in hc2)) w3 hMu hKn hR (Nat.lt_of_le_of_lt (hKm _ _ _ _ h4).1 hUU) hS (t := 27) rfl h2 h3 r1 r2 hd hk
    · cases hc2
  | multianewarray idx k9 =>
    obtain ⟨hd, rfl⟩ := q_dk (k := 4) hchk rfl (by decide)
    obtain ⟨n, k, t, rfl, rfl, rfl, h4⟩ := h
    unfold q_rchk at hchk
    simp only [Bool.and_eq_true, decide_eq_true_eq] at hchk
    obtain ⟨⟨rfl, c1⟩, c2⟩ := hchk.2
    obtain ⟨-, -, -, -, -, -, ⟨-, -, -, w4⟩, -⟩ := hXx
    have g1 := hKm _ _ _ _ h4
    have g2 : σ.2.1 + 5 ≤ σ'.2.1 := g1.1
    have g3 : σ.2.2 + 4 + 17 + 17 + 17 + 17 ≤ σ'.2.2 := g1.2
    have g4 := h0.1
    have g5 := h0.2
    refine q_mna hx hb hown (hts _ (q_w_in c1)) w4 (hts _ (q_w_in c2)) hMu hKn hR (Nat.lt_of_le_of_lt g2 hUU) hS (by omega) (by omega) hd fun H1 k1 k2 => go _ _ _ _ _ _ _ _ _ hln h4 k1 k2 ?_ ?_ ?_ hl
    · show cells + 5 = σ.2.1 + 5 - σ0.2.1
      omega
    · show slots + 72 = σ.2.2 + 4 + 17 + 17 + 17 + 17 - σ0.2.2
      omega
    · refine ⟨?_, ?_⟩
      · show σ0.2.1 ≤ σ.2.1 + 5
        omega
      · show σ0.2.2 ≤ σ.2.2 + 4 + 17 + 17 + 17 + 17
        omega
  | new idx =>
    obtain ⟨hd, hnx⟩ := q_dk (k := 3) hchk rfl (by decide)
    rcases h with ⟨h1, vs, h2, h3⟩ | ⟨h1, h2, h3, h4, h5, h6⟩
    · subst hnx
      unfold q_rchk at hchk
      simp only [Bool.and_eq_true] at hchk
      have hc2 := hchk.2
      have h1 : a1 < 13 := h1
      rw [if_neg (by omega)] at hc2
      cases hq : q_ct[a1]? with
      | none => rw [hq] at hc2; cases hc2
      | some q =>
        rw [hq] at hc2
        obtain ⟨r1, r2, r3, r4, r5⟩ := room1 _ _ _ _ _ h3
        exact q_newo hx hb hts hown hMu hKn hR (Nat.lt_of_le_of_lt (hKm _ _ _ _ h3).1 hUU) hS hq h2 (q_w_in hc2) r1 r2 hd fun H1 g1 g2 => go _ _ _ _ _ _ _ _ _ hln h3 g1 g2 r4 r5 r3 hl
    · have h1 : a1 = 99 := h1
      subst h1
      unfold q_rchk at hchk
      simp only [Bool.and_eq_true] at hchk
      have hc2 := hchk.2
      rw [if_pos trivial] at hc2
      simp only [Bool.and_eq_true, decide_eq_true_eq] at hc2
      obtain ⟨⟨⟨⟨c1, c2⟩, c3⟩, c4⟩, c5⟩ := hc2
      subst c2
      rw [hcells, hslots]
      exact hThr H locs L pc st σ hR hS h0 ⟨_, h5⟩ h6 hl.1 c1 hd c3 c4 c5 h2 h3 h4
  | invokespecial idx =>
    obtain ⟨hd, rfl⟩ := q_dk (k := 3) hchk rfl (by decide)
    rcases h with ⟨h1, a, t, rfl, h2, h3⟩ | ⟨Mz, as, t, v, σ1, rfl, h2, h3, h4, h7, h5, h6⟩
    · have h1 : a1 = 999 := h1
      subst h1
      unfold q_rchk at hchk
      simp only [Bool.and_eq_true] at hchk
      have hc2 := hchk.2
      rw [if_pos trivial] at hc2
      exact W.objInit hx hb hown (hts _ (q_w_in hc2)) (hts _ q_obj1) (hts _ q_obj2) rfl (hl.1.trans hml.symm) rfl hd (by omega) (by have := lv_room (m := m) (pc := pc) (ls := L) (rest := .ref (μ a) :: t.map (q_v μ)) (st := t.map (q_v μ)) (by rw [q_mcat]; exact h2); show 2 * (F0 m pc L (.ref (μ a) :: t.map (q_v μ))).monitorRoom + _ + 12 ≤ _; omega) (go _ _ _ _ _ _ _ _ _ hln h3 hR hS hcells hslots h0 hl)
    · have h3 : Ms a1 = some Mz := h3
      have h4 : as.length = a2 := h4
      have g1 := hKm _ _ _ _ h6
      have g2 := hCm _ _ _ _ _ h5
      have room : cells + (σ1.2.1 - σ.2.1) ≤ R.cells ∧ slots + (σ1.2.2 - σ.2.2) ≤ R.slots := ⟨by have := g1.1; have := g2.1; have := h0.1; omega, by have := g1.2; have := g2.2; have := h0.2; omega⟩
      by_cases h999 : a1 = 999
      · subst h999
        obtain ⟨ps, hps⟩ := hG _ _ h3
        have := (q_mchk_ok hps).1
        exact absurd this (by rw [q_yn_999]; simp)
      cases as with
      | nil =>
        exfalso
        unfold q_rchk at hchk
        simp only [Bool.and_eq_true] at hchk
        have hc2 := hchk.2
        rw [if_neg h999] at hc2
        cases hy : q_yn[a1]? with
        | none => rw [hy] at hc2; cases hc2
        | some y =>
          rw [hy] at hc2
          simp only [Bool.and_eq_true, decide_eq_true_eq] at hc2
          have := hc2.1.2
          simp at h4
          omega
      | cons r0 as =>
        obtain ⟨a, h7⟩ := h7
        have h7 : r0 = .ref a := Option.some.inj h7
        subst h7
        have hn4 : as.length + 1 = a2 := h4
        have hr := q_runI (e := e) (below := below) (cells := cells) (slots := slots) hC0 hG hRf hRl h999 hchk hR hS h3 hn4 (hCall _ _ _ _ _ _ h5 h3 (Nat.lt_of_le_of_lt g1.1 hUU)) hl.1 h2 room
        refine q_after hr hS (fun v1 H1 locs1 e1 r1 r2 => ?_) (fun q H1 locs1 q9 ce e1 => by cases e1)
        cases e1
        have := go _ _ _ _ H1 locs1 (cells + (σ1.2.1 - σ.2.1)) (slots + (σ1.2.2 - σ.2.2)) L hln h6 r1 r2 (by have := g2.1; have := h0.1; omega) (by have := g2.2; have := h0.2; omega) (h0.tr g2) hl
        rw [List.map_append] at this
        cases v <;> exact this
  | invokestatic idx =>
    have hnx := (q_dk (k := 3) hchk rfl (by decide)).2
    rcases h with h | h | h | h | h | ⟨Mz, as, t, v, σ1, rfl, h2, h3, h4, h5, h6⟩
    · obtain ⟨h1, x, y, t, rfl, h2, h3⟩ := h
      have h1 : a1 = 990 := h1
      subst h1; subst hnx
      obtain ⟨hd, -⟩ := q_dk (k := 3) hchk rfl (by decide)
      unfold q_rchk at hchk
      simp only [Bool.and_eq_true] at hchk
      have hc2 := hchk.2
      rw [if_pos (by decide)] at hc2
      exact va_mmax hx hb (hml.trans hl.1.symm) hown (hts _ (q_w_in hc2)) (hts _ q_m1.1) (hts _ q_m0) (hts _ q_m1.2) (by omega) (by rw [q_mcat]; omega) (by have := hmono.1; have := h0.1; omega) (by have := hmono.2; have := h0.2; omega) hd (go _ _ _ _ _ _ _ _ _ hln h3 hR hS hcells hslots h0 hl)
    · obtain ⟨h1, x, y, t, rfl, h2, h3⟩ := h
      have h1 : a1 = 991 := h1
      subst h1; subst hnx
      obtain ⟨hd, -⟩ := q_dk (k := 3) hchk rfl (by decide)
      unfold q_rchk at hchk
      simp only [Bool.and_eq_true] at hchk
      have hc2 := hchk.2
      rw [if_pos (by decide)] at hc2
      exact va_mmin hx hb (hml.trans hl.1.symm) hown (hts _ (q_w_in hc2)) (hts _ q_m2.1) (hts _ q_m0) (hts _ q_m2.2) (by omega) (by rw [q_mcat]; omega) (by have := hmono.1; have := h0.1; omega) (by have := hmono.2; have := h0.2; omega) hd (go _ _ _ _ _ _ _ _ _ hln h3 hR hS hcells hslots h0 hl)
    · obtain ⟨h1, x, t, rfl, h2, h3⟩ := h
      have h1 : a1 = 992 := h1
      subst h1; subst hnx
      obtain ⟨hd, -⟩ := q_dk (k := 3) hchk rfl (by decide)
      unfold q_rchk at hchk
      simp only [Bool.and_eq_true] at hchk
      have hc2 := hchk.2
      rw [if_pos (by decide)] at hc2
      exact va_mabs hx hb (hml.trans hl.1.symm) hown (hts _ (q_w_in hc2)) (hts _ q_m3.1) (hts _ q_m0) (hts _ q_m3.2) (by omega) (by rw [q_mcat]; omega) (by have := hmono.1; have := h0.1; omega) (by have := hmono.2; have := h0.2; omega) hd (go _ _ _ _ _ _ _ _ _ hln h3 hR hS hcells hslots h0 hl)
    · obtain ⟨h1, x, t, rfl, h2, h3⟩ := h
      have h1 : a1 = 993 := h1
      subst h1; subst hnx
      obtain ⟨hd, -⟩ := q_dk (k := 3) hchk rfl (by decide)
      unfold q_rchk at hchk
      simp only [Bool.and_eq_true] at hchk
      have hc2 := hchk.2
      rw [if_pos (by decide)] at hc2
      exact va_mabs_long hx hb (hml.trans hl.1.symm) hown (hts _ (q_w_in hc2)) (hts _ q_m4.1) (hts _ q_m0) (hts _ q_m4.2) (by omega) (by rw [q_mcat]; omega) (by have := hmono.1; have := h0.1; omega) (by have := hmono.2; have := h0.2; omega) hd (go _ _ _ _ _ _ _ _ _ hln h3 hR hS hcells hslots h0 hl)
    · obtain ⟨h1, x, y, t, rfl, h2, h3⟩ := h
      have h1 : a1 = 994 := h1
      subst h1; subst hnx
      obtain ⟨hd, -⟩ := q_dk (k := 3) hchk rfl (by decide)
      unfold q_rchk at hchk
      simp only [Bool.and_eq_true] at hchk
      have hc2 := hchk.2
      rw [if_pos (by decide)] at hc2
      exact va_mmax_long hx hb (hml.trans hl.1.symm) hown (hts _ (q_w_in hc2)) (hts _ q_m5.1) (hts _ q_m0) (hts _ q_m5.2) (by omega) (by rw [q_mcat]; omega) (by have := hmono.1; have := h0.1; omega) (by have := hmono.2; have := h0.2; omega) hd (go _ _ _ _ _ _ _ _ _ hln h3 hR hS hcells hslots h0 hl)
    have h3 : Ms a1 = some Mz := h3
    have h4 : as.length = a2 := h4
    have g1 := hKm _ _ _ _ h6
    have g2 := hCm _ _ _ _ _ h5
    have room : cells + (σ1.2.1 - σ.2.1) ≤ R.cells ∧ slots + (σ1.2.2 - σ.2.2) ≤ R.slots := ⟨by have := g1.1; have := g2.1; have := h0.1; omega, by have := g1.2; have := g2.2; have := h0.2; omega⟩
    have h990 : ¬ 990 ≤ a1 := fun h9 => by
      obtain ⟨ps, hps⟩ := hG _ _ h3
      have h1 := (List.getElem?_eq_some_iff.mp (q_mchk_ok hps).1).1
      rw [q_yn_len] at h1
      omega
    have hr := q_runS (e := e) (below := below) (cells := cells) (slots := slots) hC0 hG hRf hRl h990 hchk hR hS h3 h4 (hCall _ _ _ _ _ _ h5 h3 (Nat.lt_of_le_of_lt g1.1 hUU)) hl.1 h2 room
    refine q_after hr hS (fun v1 H1 locs1 e1 r1 r2 => ?_) (fun q H1 locs1 q9 ce e1 => by cases e1)
    cases e1
    have := go _ _ _ _ H1 locs1 (cells + (σ1.2.1 - σ.2.1)) (slots + (σ1.2.2 - σ.2.2)) L hln h6 r1 r2 (by have := g2.1; have := h0.1; omega) (by have := g2.2; have := h0.2; omega) (h0.tr g2) hl
    rw [List.map_append] at this
    subst hnx
    cases v <;> exact this
  | invokevirtual idx =>
    have hnx := (q_dk (k := 3) hchk rfl (by decide)).2
    obtain ⟨Mz, as, t, w, σ1, rfl, h2, h3, h4, ⟨a, c9, h7, h8, h9⟩, h5, h6⟩ := h
    have h3 : Ms a1 = some Mz := h3
    have h4 : as.length = a2 := h4
    have g1 : q_lt σ1 σ' := by
      rcases h6 with ⟨v, -, h6⟩ | ⟨q, h, k, nx, n1, n2, z, -, -, -, -, -, h6⟩
      · exact hKm _ _ _ _ h6
      · exact hKm _ _ _ _ h6
    have g2 := hCm _ _ _ _ _ h5
    have room : cells + (σ1.2.1 - σ.2.1) ≤ R.cells ∧ slots + (σ1.2.2 - σ.2.2) ≤ R.slots := ⟨by have := g1.1; have := g2.1; have := h0.1; omega, by have := g1.2; have := g2.2; have := h0.2; omega⟩
    cases as with
    | nil => cases h7
    | cons r0 as =>
      have h7 : r0 = .ref a := Option.some.inj h7
      subst h7
      have hn4 : as.length + 1 = a2 := h4
      have hr := q_runV (e := e) (below := below) (cells := cells) (slots := slots) hC0 hG hRf hRl hchk hR hS h3 h8 h9 hn4 (hCall _ _ _ _ _ _ h5 h3 (Nat.lt_of_le_of_lt g1.1 hUU)) hl.1 h2 room
      refine q_after hr hS (fun v1 H1 locs1 e1 r1 r2 => ?_) (fun q1 H1 locs1 q9 ce e1 r1 r2 k1 k2 k3 => ?_)
      · rcases h6 with ⟨v, e2, h6⟩ | ⟨q, h, k, nx, n1, n2, z, e2, -, -, -, -, h6⟩
        · cases e1.symm.trans e2
          have := go _ _ _ _ H1 locs1 (cells + (σ1.2.1 - σ.2.1)) (slots + (σ1.2.2 - σ.2.2)) L hln h6 r1 r2 (by have := g2.1; have := h0.1; omega) (by have := g2.2; have := h0.2; omega) (h0.tr g2) hl
          rw [List.map_append] at this
          subst hnx
          cases v1 <;> exact this
        · cases e1.symm.trans e2
      · rcases h6 with ⟨v, e2, h6⟩ | ⟨q, h, k, nx, n1, n2, z, e2, d1, d2, d3, d4, h6⟩
        · cases e1.symm.trans e2
        · obtain ⟨ps, hps⟩ := hsk
          have hrow : ∃ i9 : Instr, q_lk M.2.2.2.2.2 h = some (h, i9, nx, n1, n2, z) ∧ (i9 = .astore k ∨ ∃ k4 : Fin 4, k4.val = k ∧ i9 = .astore_n k4) := by
            rcases d2 with d2 | ⟨k4, e4, d2⟩
            · exact ⟨_, d2, Or.inl rfl⟩
            · exact ⟨_, d2, Or.inr ⟨k4, e4, rfl⟩⟩
          obtain ⟨i9, d2, d5⟩ := hrow
          obtain ⟨-, p9, hp9⟩ := q_rsk_at hps d2
          unfold q_hchk at hh
          split at hh
          · next h99 => rw [h99] at d1; cases d1
          · next hx9 h99 =>
            simp only [Bool.and_eq_true, decide_eq_true_eq] at hh
            have hex := hex (by rw [h99]; exact List.cons_ne_nil _ _)
            rw [h99] at d1 hex
            unfold q_hd at d1
            by_cases hcv : hx9.1 ≤ pc ∧ pc < hx9.2.1
            · rw [if_pos hcv] at d1
              have e9 : hx9.2.2.1 = h := Option.some.inj d1
              have hcw : (Cond.classLink M.1.cls 13 "java/util/NoSuchElementException").before args s = true := by rw [hh.1.2]; exact hts _ (q_w_in hh.2)
              refine vx_catch hown [] ⟨hx9.1, hx9.2.1, hx9.2.2.1, hx9.2.2.2⟩ [] (by rw [hex]; rfl) (fun z hz => nomatch hz) (by simp [covers, hcv.1, hcv.2]) (by show hx9.2.2.2 ≠ 0; rw [hh.1.1]; decide) (by show (Cond.classLink M.1.cls hx9.2.2.2 _).before args s = true; rw [hh.1.1]; exact hcw) (va_Nw.use rfl (hXx.2.2.2.2.2.2.2 _ q_cast9)) k1 k2 k3 ?_
              show W _ _ _ _ _ _ _ _ _ _ _ _ _ _ _ (F0 m hx9.2.2.1 L [.ref q9])
              rw [e9]
              have fin := fun (L1 : Array Slot) hl1 => go nx (ls.set k none) [] σ1 H1 locs1 (cells + (σ1.2.1 - σ.2.1)) (slots + (σ1.2.2 - σ.2.2)) L1 (by rw [List.length_set]; exact hln) h6 r1 r2 (by have := g2.1; have := h0.1; omega) (by have := g2.2; have := h0.2; omega) (h0.tr g2) (q_has_drop (w := .ref q9) d4 hl1)
              rcases d5 with rfl | ⟨k4, e4, rfl⟩
              · obtain ⟨hd9, rfl⟩ := q_dk (k := 2) hp9 rfl (by decide)
                exact lv_astore hx hb hd9 hl (by omega) rfl (fun L1 hl1 => fin L1 hl1)
              · obtain ⟨hd9, rfl⟩ := q_dk (k := 1) hp9 rfl (by decide)
                exact lv_astore_n hx hb hd9 e4 hl (by omega) rfl (fun L1 hl1 => fin L1 hl1)
            · rw [if_neg hcv] at d1; cases d1
          · cases hh
  | ireturn =>
    obtain ⟨hd, rfl⟩ := q_dk (k := 1) hchk rfl (by decide)
    obtain ⟨x, rfl, h1, h2, rfl⟩ := h
    rw [hcells, hslots]
    exact hEnd (some (.int x)) H locs L pc .ireturn h2 hR hS hd (Or.inl ⟨rfl, x, rfl, h1⟩)
  | lreturn =>
    obtain ⟨hd, rfl⟩ := q_dk (k := 1) hchk rfl (by decide)
    obtain ⟨x, rfl, h1, h2, rfl⟩ := h
    rw [hcells, hslots]
    exact hEnd (some (.long x)) H locs L pc .lreturn h2 hR hS hd (Or.inr (Or.inl ⟨rfl, x, rfl, h1⟩))
  | areturn =>
    obtain ⟨hd, rfl⟩ := q_dk (k := 1) hchk rfl (by decide)
    obtain ⟨v, rfl, h1, h2, h3, rfl⟩ := h
    rw [hcells, hslots]
    exact hEnd (some v) H locs L pc .areturn h3 hR hS hd (Or.inr (Or.inr (Or.inl ⟨rfl, v, rfl, h1, h2⟩)))
  | return_ =>
    obtain ⟨hd, rfl⟩ := q_dk (k := 1) hchk rfl (by decide)
    obtain ⟨rfl, h1, h2, rfl⟩ := h
    rw [hcells, hslots]
    exact hEnd none H locs L pc .return_ h2 hR hS hd (Or.inr (Or.inr (Or.inr ⟨rfl, rfl, h1⟩)))
  | _ => exact absurd rfl hs1
theorem q_walk (hC : q_Ctx μ cls iS X B fm p s m args meth c M) (hG : q_Good Ms) (hh : q_hchk M = true) (hsk : ∃ ps, q_rsk M.1.cls M.1.name M.2.1 M.2.2.2.2.2 ps = true) (hUU : σ'.2.1 < q_U) (hRc : σ'.2.1 - σ0.2.1 ≤ R.cells) (hRs : σ'.2.2 - σ0.2.2 ≤ R.slots) (hRf : d + 1 ≤ R.frames) (hRl : 64 * (d + 1) ≤ R.locals)
    (hCm : ∀ z as σ w σ1, C z as σ w σ1 → q_lt σ σ1) (hCall : ∀ z as σ w σ1 Mz, C z as σ w σ1 → Ms z = some Mz → σ1.2.1 < q_U → q_Snd μ cls iS X B fm l d Mz as σ w σ1) (hEnd : q_End μ cls iS X B p l e R s m args below meth c Q M o σ0 σ') (hThr : q_Thr μ cls iS X B p l e R s m args below meth c Q M d o σ0 σ') :
    ∀ (n pc : Nat) (ls : q_L) (st : List Value) (σ : q_H) (H : Heap) (locs : List Loc) (cells slots : Nat) (L : Array Slot), ls.length = M.2.2.1 → q_run fm Ms C (d + 1) M o σ' n pc ls st σ → q_Rep μ cls iS X σ H → va_S (q_A B) s.heap H locs → cells = σ.2.1 - σ0.2.1 → slots = σ.2.2 - σ0.2.2 → q_lt σ0 σ → lv_has L M.2.2.1 (q_al μ 0 ls) → W p l e R s m args below meth c H locs cells slots Q (F0 m pc L (st.map (q_v μ)))
  | 0, _, _, _, _, _, _, _, _, _, _, h, _, _, _, _, _, _ => False.elim h
  | n + 1, pc, ls, st, σ, H, locs, cells, slots, L, hln, h, hR, hS, hcells, hslots, h0, hl => by
    obtain ⟨r, ls0, hlk, hle, hone⟩ := h
    obtain ⟨ps, hps⟩ := hsk
    obtain ⟨hpc, pp, hchk⟩ := q_rsk_at hps hlk
    obtain ⟨pc0, i, nx, a1, a2, z⟩ := r
    have hpc : pc0 = pc := hpc
    subst hpc
    exact q_step hC hG hh hUU hRc hRs hRf hRl hCm hCall hEnd hThr (fun _ _ _ _ hk => q_run_mono hCm hk) (q_walk hC hG hh ⟨ps, hps⟩ hUU hRc hRs hRf hRl hCm hCall hEnd hThr n) hlk ⟨ps, hps⟩ hchk hR hS hcells hslots h0 (q_has_le hl hle) ((q_le_len hle).trans hln) hone
end
/-- every run of the small machine is the contract of its method -/
theorem q_sound {fm : Value} {Ms : Nat → Option q_M} (hG : q_Good Ms) {μ : Nat → Nat} {cls : Nat → ClassId} {iS : Nat → Nat → Nat} {X : Nat → ClassId} {B : Nat} (hMu : q_Mu μ B) {l : Launch} (hsr : l.stackTraces = false) :
    ∀ (d z : Nat) (as : List Value) (σ : q_H) (o : q_O) (σ' : q_H) (M : q_M), q_Rel fm Ms d z as σ o σ' → Ms z = some M → σ'.2.1 < q_U → q_Snd μ cls iS X B fm l d M as σ o σ'
  | 0, _, _, _, _, _, _, h, _, _ => False.elim h
  | d + 1, z, as, σ, o, σ', M, h, hz, hU => by
    have hmono := q_Rel_mono h
    obtain ⟨M', n, hz', hal, hrun⟩ := h
    cases Option.some.inj (hz.symm.trans hz')
    obtain ⟨ps, hps⟩ := hG z M hz
    obtain ⟨h1, h2, h3, h4, h5, h6, h7, h8⟩ := q_mchk_ok hps
    refine ⟨hmono, ?_⟩
    have body : ∀ p e s m args below meth c s₁ S, BodyLoose p l M.1 S M.2.1 M.2.2.1 M.2.2.2.1 e s m args below meth c s₁ → S.room = q_room (d + 1) (σ'.2.1 - σ.2.1) (σ'.2.2 - σ.2.2) → S.pre = allAtoms (q_cw M :: q_tbl) → c.maxLocals = M.2.2.1 → c.exceptionTable.toList = tableOf M.2.2.2.2.1 → q_Pc μ cls iS X B fm as σ args s →
        W p l e (q_room (d + 1) (σ'.2.1 - σ.2.1) (σ'.2.2 - σ.2.2)) s m args below meth c s.heap [] 0 0 (vx_MQ below (q_Qc μ cls iS X B o σ') (q_XC μ cls iS X B o σ') args s (σ'.2.1 - σ.2.1) (σ'.2.2 - σ.2.2) (q_A B)) (entryFrame m args M.2.2.1) := by
      intro p e s m args below meth c s₁ S Bd hroom hpre hml hex hP
      obtain ⟨rfl, hR, hKn, hX⟩ := hP
      have hts : ∀ w ∈ q_tbl, w.before (as.map (q_v μ)).toArray s = true := fun w hw => by
        have := Bd.pre
        rw [hpre] at this
        exact atoms_spec this w (List.mem_cons_of_mem _ hw)
      have hC : q_Ctx μ cls iS X B fm p s m (as.map (q_v μ)).toArray meth c M := ⟨Bd.exec, Bd.bytes, hml, findClass_of_methodNamed Bd.named, hts, hMu, hKn, hX, fun hn => (name_of_methodNamed Bd.named Bd.method).1.trans hn, fun _ => hex⟩
      rw [lg_entry_eq]
      refine q_walk (σ0 := σ) (d := d) hC hG h8 ⟨ps, h7⟩ hU (Nat.le_refl _) (Nat.le_refl _) (Nat.le_refl _) (Nat.le_refl _) (fun _ _ _ _ _ hk => q_Rel_mono hk) (fun z9 as9 σ9 w9 σ19 M9 hk hm hu => q_sound hG hMu hsr d z9 as9 σ9 w9 σ19 M9 hk hm hu) ?_ ?_ n 0 (q_in M.2.2.1 as) [] σ s.heap [] 0 0 _ ?_ hrun hR va_S.rf (Nat.sub_self _).symm (Nat.sub_self _).symm (q_lt.rf _) (q_entry as hal)
      · intro v H1 locs1 L1 pc1 i9 ho r1 r2 hd hrt
        have hq : ∀ t : State, t.heap = H1 → s.WarmedH t.vm → q_Qc μ cls iS X B o σ' (as.map (q_v μ)).toArray s (.returned (v.map (q_v μ))) t := fun t ht hW => ⟨⟨v, ho, rfl⟩, by rw [ht]; exact r1, r2.F ht⟩
        refine vx_ret ?_
        rcases hrt with ⟨rfl, x, rfl, hr⟩ | ⟨rfl, x, rfl, hr⟩ | ⟨rfl, w, rfl, hw, hr⟩ | ⟨rfl, rfl, hr⟩
        · cases hret : M.2.2.2.1 with
          | none => rw [hret] at hr; exact False.elim hr
          | some ty =>
            rw [hret] at hr
            exact W.zret Bd.exec Bd.bytes (Bd.returns.trans hret) hr hq r2.2.2 hd Bd.notSynchronized
        · exact W.lret Bd.exec Bd.bytes (Bd.returns.trans hr) hq r2.2.2 hd Bd.notSynchronized
        · have hw2 : q_v μ w = .null ∨ ∃ a, q_v μ w = .ref a := by
            rcases hw with rfl | ⟨a, rfl⟩
            · exact Or.inl rfl
            · exact Or.inr ⟨_, rfl⟩
          rcases hr with ⟨n9, hr⟩ | ⟨t9, hr⟩
          · exact W.aret Bd.exec Bd.bytes (Bd.returns.trans hr) (Or.inl ⟨n9, rfl⟩) hw2 hq r2.2.2 hd Bd.notSynchronized
          · exact W.aret Bd.exec Bd.bytes (Bd.returns.trans hr) (Or.inr ⟨t9, rfl⟩) hw2 hq r2.2.2 hd Bd.notSynchronized
        · exact W.vret Bd.exec Bd.bytes (Bd.returns.trans hr) hq r2.2.2 hd Bd.notSynchronized
      · intro H1 locs1 L1 pc1 st1 σ1 r1 r2 r3 ho he hls hcl d0 d3 d4 d7 h6d hcat hhn
        have hw := q_thw_at hts hX.2.2.2.2.2.2.2
        have hot := List.all_eq_true.mp q_thw_ot
        have hown : s.vm.findClass "ReedSheets" = some m.cls := by rw [← hcl]; exact findClass_of_methodNamed Bd.named
        have g1 := r3.1
        have g2 := r3.2
        have e1 : σ'.2.1 = σ1.2.1 + 1 := by rw [he]
        have e2 : σ'.2.2 = σ1.2.2 + 6 := by rw [he]
        refine q_throw0 Bd.exec Bd.bytes hsr (own := "ReedSheets") (cls := q_NS) (names := q_NN) (ik := 148) (ic := 150) (A := q_A B) hown (by decide) (by decide) (hw _ List.mem_cons_self) (hw _ (List.mem_cons_of_mem _ List.mem_cons_self)) (fun w h9 => hw w (List.mem_cons_of_mem _ (List.mem_cons_of_mem _ h9))) (fun w h9 => hot w h9) hX.2.2.2.2.2.1.1 hX.2.2.2.2.2.1.2 r2 (hls.trans hml.symm) d0 d3 d4 d7 ?_ ?_ ?_ ?_ ?_ Bd.notSynchronized ?_ r2.2.2 ?_ ?_
        · rw [hex, hhn]; intro x hx; cases hx
        · show 2 + 3 < d + 1
          omega
        · rw [q_mcat]
          show q_cat st1 + (13 * (2 + 1) + 42) ≤ 64 * (d + 1)
          omega
        · show σ1.2.1 - σ.2.1 + 1 ≤ σ'.2.1 - σ.2.1
          omega
        · show σ1.2.2 - σ.2.2 + 6 ≤ σ'.2.2 - σ.2.2
          omega
        · intro t ht hsz hold
          refine ⟨rfl, ho, ?_, ?_⟩
          · rw [he]
            have hU1 : σ1.2.1 + 1 < q_U := by rw [he] at hU; exact hU
            refine ⟨⟨Nat.le_succ_of_le r1.1.1, hU1⟩, ?_, fun b c9 hb9 => ?_⟩
            · show t.heap.size = μ (σ1.2.1 + 1)
              rw [hsz, r1.2.1, hMu.succ r1.1.1 hU1]
            · obtain ⟨k1, k2⟩ := r1.2.2 b c9 hb9
              exact ⟨Nat.lt_succ_of_lt k1, k2.kept (hold _ (by rw [r1.2.1]; exact hMu.lt r1.1.1 r1.1.2 k1))⟩
          · exact ⟨by rw [hsz]; exact Nat.le_succ_of_le r2.1, fun q q1 q2 => (hold q (Nat.lt_of_lt_of_le q1 r2.1)).trans (r2.2.1 q q1 q2)⟩
        · omega
        · omega
      · show (q_args as ++ List.replicate (M.2.2.1 - (q_args as).length) none).length = M.2.2.1
        rw [List.length_append, List.length_replicate]
        omega
    by_cases hh : M.2.2.2.2.1 = []
    · rw [q_cw_code hh]
      refine vx_ofW h2 rfl ?_
      intro p e s m args below meth c s₁ Bd hml hex hP
      exact body p e s m args below meth c s₁ _ Bd rfl (by rw [q_cw_code hh]; rfl) hml (by rw [hh]; exact List.eq_nil_iff_forall_not_mem.mpr fun x hx => hex x hx) hP
    · rw [q_cw_with hh]
      refine vx_ofWH h2 rfl ?_
      intro p e s m args below meth c s₁ Bd hml hP
      exact body p e s m args below meth c s₁ _ Bd rfl (by rw [q_cw_with hh]; rfl) hml (vx_table (x := M.1) Bd (atoms_spec (ws := Cond.codeWith M.1 M.2.1 M.2.2.1 M.2.2.2.1 M.2.2.2.2.1 :: q_tbl) Bd.pre _ List.mem_cons_self)) hP
