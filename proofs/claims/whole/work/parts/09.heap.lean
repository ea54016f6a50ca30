/-! What the tables say of the classes; loads and stores of the small heap in the machine's. -/
def q_cchk (t : Nat) : Bool := match q_ct[t]? with
  | some q => (List.range q.2.2).all (fun k => q_w ((q_lp.getD t []).getD k 0) (u_lay q.1 q.2.1 k)) && (match q_cty[t]? with
      | some f => (List.range q.2.2).all (fun k => decide (parseFieldDescriptor (q.2.1 k).2.2.1 = some (f k))) && decide (q_dl[t]? = some ((List.range q.2.2).map (fun k => defaultValue (f k))))
      | none => false) && (List.range q.2.2).all (fun a => (List.range q.2.2).all (fun b => decide (a ≠ b → (q.2.1 a).2.1 ≠ (q.2.1 b).2.1))) &&
      q_w (q_ip.getD t (0, 0)).1 (.instantiable q.1 q.2.2) && q_w (q_ip.getD t (0, 0)).2 (.initialized q.1)
  | none => false
theorem q_cchk0 : (List.range 13).all q_cchk = true := by decide +kernel
theorem q_ct_facts {t : Nat} {q : vw_C} (h : q_ct[t]? = some q) : (∀ w ∈ u_ws q.1 q.2.1 q.2.2, w ∈ q_tbl) ∧ (∃ f, q_cty[t]? = some f ∧ (∀ k, k < q.2.2 → parseFieldDescriptor (q.2.1 k).2.2.1 = some (f k)) ∧ q_dl[t]? = some ((List.range q.2.2).map (fun k => defaultValue (f k)))) ∧ (∀ a, a < q.2.2 → ∀ b, b < q.2.2 → a ≠ b → (q.2.1 a).2.1 ≠ (q.2.1 b).2.1) ∧ Cond.instantiable q.1 q.2.2 ∈ q_tbl ∧ Cond.initialized q.1 ∈ q_tbl := by
  have h13 : t < 13 := by
    have h3 := (List.getElem?_eq_some_iff.mp h).1
    simpa [q_ct] using h3
  have h0 := List.all_eq_true.mp q_cchk0 t (List.mem_range.mpr h13)
  unfold q_cchk at h0
  rw [h] at h0
  simp only [Bool.and_eq_true] at h0
  obtain ⟨⟨⟨⟨h1, h2⟩, h3⟩, h4⟩, h5⟩ := h0
  refine ⟨fun w hw => ?_, ?_, fun a ha b hb hab => ?_, q_w_in h4, q_w_in h5⟩
  · obtain ⟨k, hk, rfl⟩ := List.mem_map.mp hw
    exact q_w_in (List.all_eq_true.mp h1 k hk)
  · cases hc : q_cty[t]? with
    | none => rw [hc] at h2; cases h2
    | some f =>
      rw [hc] at h2
      simp only [Bool.and_eq_true, decide_eq_true_eq] at h2
      exact ⟨f, rfl, fun k hk => of_decide_eq_true (List.all_eq_true.mp h2.1 k (List.mem_range.mpr hk)), h2.2⟩
  · exact of_decide_eq_true (List.all_eq_true.mp (List.all_eq_true.mp h3 a (List.mem_range.mpr ha)) b (List.mem_range.mpr hb)) hab
section
variable {μ : Nat → Nat} {cls : Nat → ClassId} {iS : Nat → Nat → Nat} {X : Nat → ClassId} {B : Nat} {fm : Value}
theorem q_ld {s : State} {σ : q_H} {H : Heap} {t a : Nat} {i : Int32} {v : Value} {ty : FieldType} (hK : q_Kn cls iS X s) (hR : q_Rep μ cls iS X σ H) (ht : q_aty t = some ty) (h : q_ga σ t a i = some v) :
    ∃ cell, H[μ a]? = some cell ∧ s.isArrayOf cell ty ∧ cell.vm ≠ .unknown ∧ ¬ (i < 0 ∨ cell.slots.size ≤ i.toNatClampNeg) ∧ cell.slots[i.toNatClampNeg]? = some (q_v μ v) := by
  obtain ⟨hi, vs, h1, h2⟩ := q_ga_some h
  obtain ⟨cell, hx, hc, hcl, hu, hz, hsl⟩ := (hR.2.2 a _ h1).2.arr ht
  have hlen := (List.getElem?_eq_some_iff.mp h2).1
  refine ⟨cell, hc, hK.arr ht hx hcl hz, hu, ?_, ?_⟩
  · rw [hsl, List.size_toArray, List.length_map]
    rintro (h9 | h9)
    · exact hi h9
    · omega
  · rw [hsl, List.getElem?_toArray, List.getElem?_map, h2]
    rfl
theorem q_sv {s : State} {σ σ1 : q_H} {H : Heap} {t a : Nat} {i : Int32} {v : Value} {ty : FieldType} (hM : q_Mu μ B) (hK : q_Kn cls iS X s) (hR : q_Rep μ cls iS X σ H) (ht : q_aty t = some ty) (h : q_sa σ t a i v = some σ1) :
    ∃ cell, H[μ a]? = some cell ∧ s.isArrayOf cell ty ∧ cell.vm ≠ .unknown ∧ (∀ z, cell.vm ≠ .statics z) ∧ cell.cls = cls t ∧ ¬ (i < 0 ∨ cell.slots.size ≤ i.toNatClampNeg) ∧ q_A B (μ a) ∧
      ∀ H1 : Heap, H1[μ a]? = some (cell.setSlot i.toNatClampNeg (q_v μ v)) → H1.size = H.size → (∀ q, q ≠ μ a → H1[q]? = H[q]?) → q_Rep μ cls iS X σ1 H1 := by
  obtain ⟨hi, vs, h1, h8, hlt, rfl⟩ := q_sa_some h
  obtain ⟨hal, hcell⟩ := hR.2.2 a _ h1
  obtain ⟨cell, hx, hc, hcl, hu, hz, hsl⟩ := hcell.arr ht
  refine ⟨cell, hc, hK.arr ht hx hcl hz, hu, hz, by rw [hcl, if_neg (by omega)], ?_, hM.ge h8 (Nat.lt_trans hal hR.1.2), fun H1 e1 e2 e3 => ?_⟩
  · rw [hsl, List.size_toArray, List.length_map]
    rintro (h9 | h9)
    · exact hi h9
    · omega
  · refine hR.up hM h8 hal (Or.inr (Or.inl ⟨ty, _, ht, hx, e1, hcl, hu, hz, ?_⟩)) e2 e3
    show (cell.slots.setIfInBounds i.toNatClampNeg (q_v μ v)) = _
    rw [hsl, List.setIfInBounds_toArray, List.map_set]
theorem q_S_put {A : Nat → Prop} {H0 H H1 : Heap} {locs : List Loc} {a i : Nat} (hS : va_S A H0 H locs) (ha : A a) (hz : H1.size = H.size) (hq : ∀ q, q ≠ a → H1[q]? = H[q]?) : va_S A H0 H1 (locs ++ [⟨a, i⟩]) := by
  refine ⟨by rw [hz]; exact hS.1, fun q h1 h2 => ?_, fun l hl => ?_⟩
  · rw [hq q (fun e => h2 (e ▸ ha))]
    exact hS.2.1 q h1 h2
  · rcases List.mem_append.mp hl with h | h
    · exact hS.2.2 l h
    · rw [List.mem_singleton.mp h]; exact ha
theorem q_S_new {A : Nat → Prop} {H0 H H1 : Heap} {locs : List Loc} (hS : va_S A H0 H locs) (hz : H.size ≤ H1.size) (hq : ∀ q, q < H.size → H1[q]? = H[q]?) : va_S A H0 H1 locs :=
  ⟨Nat.le_trans hS.1 hz, fun q h1 h2 => (hq q (Nat.lt_of_lt_of_le h1 hS.1)).trans (hS.2.1 q h1 h2), hS.2.2⟩
section W1
variable {p : Program} {l : Launch} {e : Env} {R : Room} {s : State} {m : MethodId} {args : Array Value} {below : List Frame} {meth : Method} {c : Code} {H : Heap} {locs : List Loc} {cells slots : Nat} {Q : State → Prop} {cc : ByteArray} {pc : Nat} {L : Array Slot} {rest : List Value} {own : String}
theorem q_getf (hx : p.tables.exec = Jvm.exec) (hb : c.code = cc) (hts : ∀ w ∈ q_tbl, w.before args s = true) (hown : s.vm.findClass own = some m.cls) (hK : q_Kn cls iS X s) {σ : q_H} (hR : q_Rep μ cls iS X σ H) {t k a index : Nat} {q : vw_C} {v : Value} (hq : q_ct[t]? = some q) (hk : k < q.2.2) (hl : Cond.fieldLink own index q.1 (q.2.1 k).2.1 (q.2.1 k).2.2.1 ∈ q_tbl) (ho : (q.2.1 k).1 = q.1) (h : q_gf σ t a k = some v) (hd : decode cc pc = .ok (.getfield index, 3))
    (kk : W p l e R s m args below meth c H locs cells slots Q (F0 m (pc + 3) L (q_v μ v :: rest))) : W p l e R s m args below meth c H locs cells slots Q (F0 m pc L (.ref (μ a) :: rest)) := by
  obtain ⟨vs, h1, h2⟩ := q_gf_some h
  obtain ⟨-, cell, hc, hcl, hvm, hsl⟩ := (hR.2.2 a _ h1).2.obj hq
  obtain ⟨hS, hfc, kC, hkC, hkind⟩ := hK.1 t q hq
  obtain ⟨cf, kf, fi, fd, hi, he⟩ := hS k hk
  have hf := u_facts hfc hkC (u_lays hts (q_ct_facts hq).1 hk) hi
  refine W.getf hx hb hown (hts _ hl) (by rw [← ho]; exact hi) hf.1 hc (by rw [hvm]; intro z; cases z) (v := q_v μ v) ?_ rfl rfl hd kk
  rw [he, hsl k hk]
  simp only [List.getD_eq_getElem?_getD, h2, Option.getD_some]
theorem q_putf (hx : p.tables.exec = Jvm.exec) (hb : c.code = cc) (hts : ∀ w ∈ q_tbl, w.before args s = true) (hown : s.vm.findClass own = some m.cls) (hM : q_Mu μ B) (hK : q_Kn cls iS X s) {σ σ1 : q_H} (hR : q_Rep μ cls iS X σ H) {H0 : Heap} (hS0 : va_S (q_A B) H0 H locs) {t k a index : Nat} {q : vw_C} {v : Value} {f : Nat → FieldType} (hq : q_ct[t]? = some q) (hf : q_cty[t]? = some f) (hk : k < q.2.2) (hl : Cond.fieldLink own index q.1 (q.2.1 k).2.1 (q.2.1 k).2.2.1 ∈ q_tbl) (ho : (q.2.1 k).1 = q.1) (hfin : (q.2.1 k).2.2.2 = true → meth.name = "<init>" ∧ own = q.1) (hn : narrow (f k) (q_v μ v) = q_v μ v) (hfit : fits (f k) (q_v μ v) = true) (h : q_sf σ t a k v = some σ1) (hd : decode cc pc = .ok (.putfield index, 3))
    (kk : ∀ (H1 : Heap) (locs1 : List Loc), q_Rep μ cls iS X σ1 H1 → va_S (q_A B) H0 H1 locs1 → W p l e R s m args below meth c H1 locs1 cells slots Q (F0 m (pc + 3) L rest)) : W p l e R s m args below meth c H locs cells slots Q (F0 m pc L (q_v μ v :: .ref (μ a) :: rest)) := by
  obtain ⟨vs, h1, h8, hlt, rfl⟩ := q_sf_some h
  obtain ⟨hal, hcell⟩ := hR.2.2 a _ h1
  obtain ⟨hlen, cell, hc, hcl, hvm, hsl⟩ := hcell.obj hq
  obtain ⟨hS, hfc, kC, hkC, hkind⟩ := hK.1 t q hq
  obtain ⟨cf, kf, fi, fd, hi, he⟩ := hS k hk
  obtain ⟨hws, ⟨f', hf', hty, -⟩, hnm, -, -⟩ := q_ct_facts hq
  cases hf.symm.trans hf'
  have hfa := u_facts hfc hkC (u_lays hts hws hk) hi
  have hlt2 : fd.slot < cell.slots.size := by
    rw [he]
    exact (Array.getElem?_eq_some_iff.mp (hsl k hk)).1
  have fin : ∀ H1 : Heap, H1[μ a]? = some (cell.setSlot fd.slot (q_v μ v)) → H1.size = H.size → (∀ q, q ≠ μ a → H1[q]? = H[q]?) → q_Rep μ cls iS X (q_up σ a (t, vs.set k v)) H1 := by
    intro H1 e1 e2 e3
    refine hR.up hM h8 hal (Or.inl ⟨q, hq, by rw [List.length_set]; exact hlen, _, e1, hcl, hvm, fun j hj => ?_⟩) e2 e3
    show (cell.slots.setIfInBounds fd.slot (q_v μ v))[iS t j]? = _
    by_cases hjk : j = k
    · subst hjk
      rw [← he, Array.getElem?_setIfInBounds_self_of_lt hlt2]
      simp [hlt]
    · obtain ⟨cf2, kf2, fi2, fd2, hi2, he2⟩ := hS j hj
      have hne : fd.slot ≠ fd2.slot := u_apart (u_lays hts hws hk) (u_lays hts hws hj) hi hi2 (by
        rw [(State.fieldFound?_type hi (hty k hk)).1, (State.fieldFound?_type hi2 (hty j hj)).1]
        exact hnm k hk j hj (Ne.symm hjk))
      rw [← he2, Array.getElem?_setIfInBounds_ne hne, he2, hsl j hj]
      simp only [List.getD_eq_getElem?_getD]
      rw [List.getElem?_set_ne (Ne.symm hjk)]
  cases hfl : (q.2.1 k).2.2.2 with
  | true =>
    obtain ⟨f1, f2⟩ := hfin hfl
    have hlay : (Cond.laysFinal q.1 (q.2.1 k).1 (q.2.1 k).2.1 (q.2.1 k).2.2.1).before args s = true := by
      have h9 := hts _ (hws _ (u_in_lay hk))
      unfold u_lay at h9
      rw [hfl] at h9
      exact h9
    have hcf : m.cls = cf := by
      obtain ⟨_, _, c', _, _, _, -, -, hf', -, -, -, hown2, -⟩ := Cond.laysFinal_spec hlay
      have e1 : c' = cf := by have := hi.symm.trans hf'; simp at this; exact this.1.symm
      rw [ho, ← f2] at hown2
      rw [← e1]; exact Option.some.inj (hown.symm.trans hown2)
    have hS2 := u_fits hfc hkC hkind (u_lays hts hws hk) hi (hty k hk) hn hfit
    refine W.putFinK hx hb hown (hts _ hl) (by rw [← ho]; exact hi) hfa.1 hcf f1 (by rw [hcl]; exact hS2) hc hvm hlt2 rfl rfl hd fun H1 e1 e2 e3 => ?_
    exact kk H1 _ (fin H1 e1 e2 e3) (q_S_put hS0 (hM.ge h8 (Nat.lt_trans hal hR.1.2)) e2 e3)
  | false =>
    have hlw : (Cond.lays q.1 (q.2.1 k).1 (q.2.1 k).2.1 (q.2.1 k).2.2.1).before args s = true := by
      have h9 := hts _ (hws _ (u_in_lay hk))
      unfold u_lay at h9
      rw [hfl] at h9
      exact h9
    have hS2 := u_store hfc hkC hkind hlw hi (hty k hk) hn hfit
    refine W.putK hx hb (ref := q.1) (name := (q.2.1 k).2.1) (desc := (q.2.1 k).2.2.1) ⟨hown, hts _ hl, ⟨cf, kf, fi, by rw [← ho]; exact hi⟩, hfa.1⟩ (by rw [hcl]; exact hS2) hc hvm hlt2 rfl rfl hd fun H1 e1 e2 e3 => ?_
    exact kk H1 _ (fin H1 e1 e2 e3) (q_S_put hS0 (hM.ge h8 (Nat.lt_trans hal hR.1.2)) e2 e3)
theorem q_newo (hx : p.tables.exec = Jvm.exec) (hb : c.code = cc) (hts : ∀ w ∈ q_tbl, w.before args s = true) (hown : s.vm.findClass own = some m.cls) (hM : q_Mu μ B) (hK : q_Kn cls iS X s) {σ : q_H} (hR : q_Rep μ cls iS X σ H) (hU : σ.2.1 + 1 < q_U) {H0 : Heap} (hS0 : va_S (q_A B) H0 H locs) {t index : Nat} {q : vw_C} {vs : List Value} (hq : q_ct[t]? = some q) (hvs : q_dl[t]? = some vs) (hl : Cond.classLink own index q.1 ∈ q_tbl) (hcells : cells + 1 ≤ R.cells) (hslots : slots + vs.length ≤ R.slots) (hd : decode cc pc = .ok (.new index, 3))
    (kk : ∀ (H1 : Heap), q_Rep μ cls iS X (q_mk σ t vs) H1 → va_S (q_A B) H0 H1 locs → W p l e R s m args below meth c H1 locs (cells + 1) (slots + vs.length) Q (F0 m (pc + 3) L (.ref (μ σ.2.1) :: rest))) : W p l e R s m args below meth c H locs cells slots Q (F0 m pc L rest) := by
  obtain ⟨hws, ⟨f, hf, hty, hdl⟩, -, hins, hini⟩ := q_ct_facts hq
  cases hvs.symm.trans hdl
  have hlen : ((List.range q.2.2).map (fun k => defaultValue (f k))).length = q.2.2 := by simp
  obtain ⟨hfc, -⟩ := (hK.1 t q hq).2
  rw [hlen] at hslots
  refine W.newcK hx hb hown (hts _ hl) (hts _ hins) (hts _ hini) rfl hd hcells hslots hfc rfl fun H1 kC e0 e1 e2 e3 => ?_
  have hcell : q_cell μ cls iS X σ.2.1 (t, (List.range q.2.2).map (fun k => defaultValue (f k))) H1 := by
    refine Or.inl ⟨q, hq, hlen, ?_⟩
    obtain ⟨cell, b1, b2, b3, b4⟩ := u_born (o := μ σ.2.1) (H := H1) f hts hws (hK.1 t q hq) e0 (by rw [← hR.2.1]; exact e1) hty
    refine ⟨cell, b1, b2, b3, fun k hk => ?_⟩
    rw [b4 k hk]
    simp only [List.getD_eq_getElem?_getD, List.getElem?_map, List.getElem?_range hk, Option.map_some, Option.getD_some]
    cases f k <;> rfl
  have h9 := kk H1 (hR.mk hM hU hcell e2 e3) (q_S_new hS0 (by rw [e2]; exact Nat.le_succ _) e3)
  rw [hlen, ← hR.2.1] at h9
  exact h9
end W1
end
