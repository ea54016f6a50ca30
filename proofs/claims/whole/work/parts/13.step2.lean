/-! Stores, makings, calls, ends. -/
section
variable {μ : Nat → Nat} {cls : Nat → ClassId} {iS : Nat → Nat → Nat} {X : Nat → ClassId} {B : Nat} {fm : Value}
variable {p : Program} {l : Launch} {e : Env} {R : Room} {s : State} {m : MethodId} {args : Array Value} {below : List Frame} {meth : Method} {c : Code} {Q : State → Prop} {H : Heap} {locs : List Loc} {cells slots : Nat} {L : Array Slot}
variable {M : q_M} {cc : ByteArray} {pc : Nat} {rest : List Value}
theorem q_acls (hK : q_Kn cls iS X s) {t : Nat} {ty : FieldType} (ht : q_aty t = some ty) {cA : ClassId} (h : s.vm.findClass ("[" ++ ty.toString) = some cA) : cA = cls t := by
  have h1 := (hK.2.1 t ty ht).2
  have h2 : s.vm.findClass ("[" ++ ty.toString) = some (cls t) := by
    cases ty with
    | object C => obtain ⟨kA, comp, -, -, -, h5⟩ := h1; exact h5
    | _ => exact h1
  exact Option.some.inj (h.symm.trans h2)
theorem q_newa (hx : p.tables.exec = Jvm.exec) (hb : c.code = cc) (hts : ∀ w ∈ q_tbl, w.before args s = true) (hM : q_Mu μ B) (hK : q_Kn cls iS X s) {σ : q_H} (hR : q_Rep μ cls iS X σ H) (hU : σ.2.1 + 1 < q_U) {H0 : Heap} (hS0 : va_S (q_A B) H0 H locs) {t : Nat} {at9 : ArrayType} {n : Int32} (ht : q_aty t = some (newarray.typeOf at9)) (hw : Cond.arrayClass (newarray.typeOf at9) ∈ q_tbl) (hn : ¬ n < 0) (hn2 : n.toNatClampNeg ≤ 100000) (hcells : cells + 1 ≤ R.cells) (hslots : slots + n.toNatClampNeg ≤ R.slots) (hd : decode cc pc = .ok (.newarray at9, 2))
    (kk : ∀ (H1 : Heap), q_Rep μ cls iS X (q_mk σ t (List.replicate n.toNatClampNeg (defaultValue (newarray.typeOf at9)))) H1 → va_S (q_A B) H0 H1 locs → W p l e R s m args below meth c H1 locs (cells + 1) (slots + n.toNatClampNeg) Q (F0 m (pc + 2) L (.ref (μ σ.2.1) :: rest))) : W p l e R s m args below meth c H locs cells slots Q (F0 m pc L (.int n :: rest)) := by
  refine W.newa hx hb (hts _ hw) rfl hd rfl hn (by cases at9 <;> simp [newarray.typeOf, componentBytes] <;> omega) hcells hslots fun cA kA comp f1 f2 f3 => ?_
  have e1 := q_acls hK ht f1
  have hcell : q_cell μ cls iS X σ.2.1 (t, List.replicate n.toNatClampNeg (defaultValue (newarray.typeOf at9))) (H.push { cls := cA, slots := Array.replicate n.toNatClampNeg (defaultValue (newarray.typeOf at9)), vm := .none }) := by
    refine Or.inr (Or.inl ⟨_, _, ht, fun h => absurd hR.1.1 (by omega), by rw [← hR.2.1]; exact Array.getElem?_push_size, by rw [if_neg (by have := hR.1; omega)]; exact e1, fun z => (by cases z), fun z z2 => (by cases z2), ?_⟩)
    show Array.replicate _ _ = _
    rw [List.map_replicate, show q_v μ (defaultValue (newarray.typeOf at9)) = defaultValue (newarray.typeOf at9) by cases at9 <;> rfl]
    simp
  have h9 := kk _ (hR.mk hM hU hcell (by simp) (fun q hq => by rw [Array.getElem?_push_lt hq, Array.getElem?_eq_getElem hq])) (q_S_new hS0 (by simp) (fun q hq => by rw [Array.getElem?_push_lt hq, Array.getElem?_eq_getElem hq]))
  rw [← hR.2.1] at h9
  exact h9
theorem q_newr (hx : p.tables.exec = Jvm.exec) (hb : c.code = cc) {own C : String} {index : Nat} (hown : s.vm.findClass own = some m.cls) (hcl : (Cond.classLink own index C).before args s = true) (hov : va_AO C s) (hM : q_Mu μ B) (hK : q_Kn cls iS X s) {σ : q_H} (hR : q_Rep μ cls iS X σ H) (hU : σ.2.1 + 1 < q_U) {H0 : Heap} (hS0 : va_S (q_A B) H0 H locs) {t : Nat} {n : Int32} (ht : q_aty t = some (.object C)) (hn : ¬ n < 0) (hn2 : n.toNatClampNeg ≤ 100000) (hcells : cells + 1 ≤ R.cells) (hslots : slots + n.toNatClampNeg ≤ R.slots) (hd : decode cc pc = .ok (.anewarray index, 3))
    (kk : ∀ (H1 : Heap), q_Rep μ cls iS X (q_mk σ t (List.replicate n.toNatClampNeg .null)) H1 → va_S (q_A B) H0 H1 locs → W p l e R s m args below meth c H1 locs (cells + 1) (slots + n.toNatClampNeg) Q (F0 m (pc + 3) L (.ref (μ σ.2.1) :: rest))) : W p l e R s m args below meth c H locs cells slots Q (F0 m pc L (.int n :: rest)) := by
  refine W.anew hx hb hown hcl (va_AO.use hov) rfl hd rfl hn (by omega) hcells hslots fun cA kA comp f1 f2 f3 f4 => ?_
  have e1 := q_acls hK ht f1
  have hcell : q_cell μ cls iS X σ.2.1 (t, List.replicate n.toNatClampNeg .null) (H.push { cls := cA, slots := Array.replicate n.toNatClampNeg .null, vm := .none }) := by
    refine Or.inr (Or.inl ⟨_, _, ht, fun h => absurd hR.1.1 (by omega), by rw [← hR.2.1]; exact Array.getElem?_push_size, by rw [if_neg (by have := hR.1; omega)]; exact e1, fun z => (by cases z), fun z z2 => (by cases z2), ?_⟩)
    show Array.replicate _ _ = _
    rw [List.map_replicate, show q_v μ .null = .null from rfl]
    simp
  have h9 := kk _ (hR.mk hM hU hcell (by simp) (fun q hq => by rw [Array.getElem?_push_lt hq, Array.getElem?_eq_getElem hq])) (q_S_new hS0 (by simp) (fun q hq => by rw [Array.getElem?_push_lt hq, Array.getElem?_eq_getElem hq]))
  rw [← hR.2.1] at h9
  exact h9
theorem q_aast (hx : p.tables.exec = Jvm.exec) (hb : c.code = cc) (hM : q_Mu μ B) (hK : q_Kn cls iS X s) {σ σ1 : q_H} (hR : q_Rep μ cls iS X σ H) {H0 : Heap} (hS0 : va_S (q_A B) H0 H locs) {t t2 a : Nat} {i : Int32} {v : Value} {q : vw_C} (ht : q_aty t = some (.object q.1)) (hq : q_ct[t2]? = some q) (hv : v = .null ∨ ∃ (b : Nat) (vs : List Value), v = .ref b ∧ σ.1 b = some (t2, vs)) (h : q_sa σ t a i v = some σ1) (hd : decode cc pc = .ok (.aastore, 1))
    (kk : ∀ (H1 : Heap) (locs1 : List Loc), q_Rep μ cls iS X σ1 H1 → va_S (q_A B) H0 H1 locs1 → W p l e R s m args below meth c H1 locs1 cells slots Q (F0 m (pc + 1) L rest)) : W p l e R s m args below meth c H locs cells slots Q (F0 m pc L (q_v μ v :: .int i :: .ref (μ a) :: rest)) := by
  obtain ⟨cell, k1, k2, k3, k4, k5, k6, k7, k8⟩ := q_sv hM hK hR ht h
  obtain ⟨kA, comp, r1, r2, r3, r4⟩ := (hK.2.1 t _ ht).2
  obtain ⟨r5, kC, r6, r7⟩ := (hK.1 t2 q hq).2
  have hkc : s.vm.classes[cell.cls]? = some kA := by rw [k5]; exact r1
  have hin : ¬ i < 0 ∧ i.toNatClampNeg < cell.slots.size := by
    refine ⟨fun h1 => k6 (Or.inl h1), Nat.lt_of_not_le fun h1 => k6 (Or.inr h1)⟩
  cases Option.some.inj (r3.symm.trans r5)
  rcases hv with rfl | ⟨b, vs, rfl, hb2⟩
  · intro T hT X9
    subst hT
    obtain ⟨X', st⟩ := aastoreNullIn X9 hx k1 k4 k3 hkc r2 rfl hin (g := F0 m pc L (.null :: .int i :: .ref (μ a) :: rest)) rfl rfl (by rw [hb]; exact hd)
    have z1 : (T.setCell (μ a) (cell.setSlot i.toNatClampNeg .null)).heap.size = T.heap.size := size_setCell _ _ _
    have z2 : ∀ q, q ≠ μ a → (T.setCell (μ a) (cell.setSlot i.toNatClampNeg .null)).heap[q]? = T.heap[q]? := fun q hq => by
      show (T.heap.setIfInBounds (μ a) _)[q]? = _
      rw [Array.getElem?_setIfInBounds_ne (Ne.symm hq)]
    have z3 : (T.setCell (μ a) (cell.setSlot i.toNatClampNeg .null)).heap[μ a]? = some (cell.setSlot i.toNatClampNeg .null) := by
      show (T.heap.setIfInBounds (μ a) _)[μ a]? = _
      rw [Array.getElem?_setIfInBounds_self_of_lt (Array.getElem?_eq_some_iff.mp k1).1]
    obtain ⟨t9, a1, b1⟩ := kk _ _ (k8 _ z3 z1 z2) (q_S_put hS0 k7 z1 z2) _ rfl X'
    exact ⟨t9, st t9 a1, b1⟩
  · obtain ⟨-, cv, g1, g2, g3, -⟩ := (hR.2.2 b _ hb2).2.obj hq
    refine W.aast hx hb (v := μ b) k1 k4 k3 hkc r2 rfl r6 hin g1 (fun z => by rw [g3]; intro z2; cases z2) (by rw [g2]; exact r6) (by rw [g2]; exact va_asg _ _) rfl rfl hd fun H1 e1 e2 e3 => ?_
    exact kk H1 _ (k8 _ e1 e2 e3) (q_S_put hS0 k7 e2 e3)
theorem q_mk_cases {σ : q_H} {t b : Nat} {vs : List Value} {e9 : q_C} (h : (q_mk σ t vs).1 b = some e9) : (b = σ.2.1 ∧ e9 = (t, vs)) ∨ σ.1 b = some e9 := by
  unfold q_mk at h
  by_cases hb : b = σ.2.1
  · left
    simp only [if_pos hb] at h
    exact ⟨hb, (Option.some.inj h).symm⟩
  · right
    simp only [if_neg hb] at h
    exact h
theorem q_outer (cA : ClassId) (h0 : Nat) : (Jvm.Free.Multi.outerC cA 4 h0 4).slots = #[.ref (h0 + 1), .ref (h0 + 2), .ref (h0 + 3), .ref (h0 + 4)] := by
  simp [Jvm.Free.Multi.outerC, Cell.setSlot, Array.replicate, List.replicate]
theorem q_mna (hx : p.tables.exec = Jvm.exec) (hb : c.code = cc) {own : String} {index : Nat} (hown : s.vm.findClass own = some m.cls) (hcl : (Cond.classLink own index ("[" ++ (FieldType.array .int).toString)).before args s = true) (hov : q_AA s) (harr : (Cond.arrayClass .int).before args s = true) (hM : q_Mu μ B) (hK : q_Kn cls iS X s) {σ : q_H} (hR : q_Rep μ cls iS X σ H) (hU : σ.2.1 + 5 < q_U) {H0 : Heap} (hS0 : va_S (q_A B) H0 H locs) (hcells : cells + 5 ≤ R.cells) (hslots : slots + 72 ≤ R.slots) (hd : decode cc pc = .ok (.multianewarray index 2, 4))
    (kk : ∀ (H1 : Heap), q_Rep μ cls iS X (q_mk (q_mk (q_mk (q_mk (q_mk σ 28 [.ref (σ.2.1 + 1), .ref (σ.2.1 + 2), .ref (σ.2.1 + 3), .ref (σ.2.1 + 4)]) 20 (List.replicate 17 (.int 0))) 20 (List.replicate 17 (.int 0))) 20 (List.replicate 17 (.int 0))) 20 (List.replicate 17 (.int 0))) H1 → va_S (q_A B) H0 H1 locs → W p l e R s m args below meth c H1 locs (cells + 5) (slots + 72) Q (F0 m (pc + 4) L (.ref (μ σ.2.1) :: rest))) : W p l e R s m args below meth c H locs cells slots Q (F0 m pc L (.int 17 :: .int 4 :: rest)) := by
  intro T hT Xs
  obtain ⟨vm₁, cA, comp, -, fA, fC, -, -, X', step⟩ := Xs.multianewarray2F hx hown hcl hov harr (g := F0 m pc L (.int 17 :: .int 4 :: rest)) rfl (by rw [hb]; exact hd) (n := 4) (k := 17) rfl (by decide) (by decide) (by decide) (by decide) (by decide) rfl rfl (by exact hcells) (by exact hslots)
  have hn4 : (4 : Int32).toNatClampNeg = 4 := by decide
  have hn17 : (17 : Int32).toNatClampNeg = 17 := by decide
  rw [hn4, hn17] at X' step
  generalize hF : Jvm.Free.Multi.fill (T.setVm vm₁) cA comp 4 17 (defaultValue .int) 4 = F at X' step
  have hTh : (T.setVm vm₁).heap = H := hT
  obtain ⟨f1, f2, -, -⟩ := Jvm.Free.Multi.fill_facts (T.setVm vm₁) cA comp 4 17 (defaultValue .int) 4
  rw [hF, hTh] at f1 f2
  have hold : ∀ x : Nat, x < H.size → F.heap[x]? = H[x]? := fun x hx => by
    have := Jvm.Free.Multi.fill_old (T.setVm vm₁) cA comp 4 17 (defaultValue .int) (a := x) (by rw [hTh]; exact hx) 4
    rw [hF, hTh] at this
    exact this
  have hrow : ∀ j : Nat, j < 4 → F.heap[H.size + 1 + j]? = some (Jvm.Free.Multi.innerC comp 17 (defaultValue .int)) := fun j hj => by
    have := Jvm.Free.Multi.fill_inner (T.setVm vm₁) cA comp 4 17 (defaultValue .int) 4 j hj
    rw [hF, hTh] at this
    exact this
  have e28 : cA = cls 28 := q_acls hK (t := 28) rfl fA
  have e20 : comp = cls 20 := q_acls hK (t := 20) rfl fC
  have h8 := hR.1.1
  have hz := hR.2.1
  have m1 : μ (σ.2.1 + 1) = H.size + 1 := by rw [hM.succ h8 (by omega), hz]
  have m2 : μ (σ.2.1 + 2) = H.size + 2 := by rw [show σ.2.1 + 2 = (σ.2.1 + 1) + 1 from rfl, hM.succ (by omega) (by omega), m1]
  have m3 : μ (σ.2.1 + 3) = H.size + 3 := by rw [show σ.2.1 + 3 = (σ.2.1 + 2) + 1 from rfl, hM.succ (by omega) (by omega), m2]
  have m4 : μ (σ.2.1 + 4) = H.size + 4 := by rw [show σ.2.1 + 4 = (σ.2.1 + 3) + 1 from rfl, hM.succ (by omega) (by omega), m3]
  have m5 : μ (σ.2.1 + 5) = H.size + 5 := by rw [show σ.2.1 + 5 = (σ.2.1 + 4) + 1 from rfl, hM.succ (by omega) (by omega), m4]
  have inner : ∀ j : Nat, j < 4 → μ (σ.2.1 + 1 + j) = H.size + 1 + j → q_cell μ cls iS X (σ.2.1 + 1 + j) (20, List.replicate 17 (.int 0)) F.heap := fun j hj hm => by
    refine Or.inr (Or.inl ⟨.int, _, rfl, fun h => absurd h8 (by omega), by rw [hm]; exact hrow j hj, by rw [if_neg (by omega)]; exact e20, fun z => (by cases z), fun z z2 => (by cases z2), ?_⟩)
    show Array.replicate 17 (Value.int 0) = _
    rw [List.map_replicate]
    simp only [q_v, List.toArray_replicate]
  have outer : q_cell μ cls iS X σ.2.1 (28, [.ref (σ.2.1 + 1), .ref (σ.2.1 + 2), .ref (σ.2.1 + 3), .ref (σ.2.1 + 4)]) F.heap := by
    refine Or.inr (Or.inl ⟨.array .int, _, rfl, fun h => absurd h8 (by omega), by rw [← hz]; exact f2, by rw [if_neg (by omega)]; exact e28, ?_, ?_, ?_⟩)
    · rw [(Jvm.Free.Multi.outerC_facts cA 4 H.size 4).2.1]; intro z; cases z
    · intro z; rw [(Jvm.Free.Multi.outerC_facts cA 4 H.size 4).2.1]; intro z2; cases z2
    · rw [q_outer]
      simp only [List.map_cons, List.map_nil, q_v, m1, m2, m3, m4]
  have hRep : q_Rep μ cls iS X (q_mk (q_mk (q_mk (q_mk (q_mk σ 28 [.ref (σ.2.1 + 1), .ref (σ.2.1 + 2), .ref (σ.2.1 + 3), .ref (σ.2.1 + 4)]) 20 (List.replicate 17 (.int 0))) 20 (List.replicate 17 (.int 0))) 20 (List.replicate 17 (.int 0))) 20 (List.replicate 17 (.int 0))) F.heap := by
    refine ⟨?_, ?_, fun b e9 hb9 => ?_⟩
    · show 8 ≤ σ.2.1 + 1 + 1 + 1 + 1 + 1 ∧ σ.2.1 + 1 + 1 + 1 + 1 + 1 < q_U
      omega
    · show F.heap.size = μ (σ.2.1 + 5)
      rw [m5, f1]
    · show b < σ.2.1 + 5 ∧ _
      rcases q_mk_cases hb9 with ⟨h9, rfl⟩ | hb9
      · have h9 : b = σ.2.1 + 4 := h9
        subst h9; exact ⟨by omega, by have := inner 3 (by omega) (by rw [show σ.2.1 + 1 + 3 = σ.2.1 + 4 by omega, m4]); rw [show σ.2.1 + 1 + 3 = σ.2.1 + 4 by omega] at this; exact this⟩
      rcases q_mk_cases hb9 with ⟨h9, rfl⟩ | hb9
      · have h9 : b = σ.2.1 + 3 := h9
        subst h9; exact ⟨by omega, by have := inner 2 (by omega) (by rw [show σ.2.1 + 1 + 2 = σ.2.1 + 3 by omega, m3]); rw [show σ.2.1 + 1 + 2 = σ.2.1 + 3 by omega] at this; exact this⟩
      rcases q_mk_cases hb9 with ⟨h9, rfl⟩ | hb9
      · have h9 : b = σ.2.1 + 2 := h9
        subst h9; exact ⟨by omega, by have := inner 1 (by omega) (by rw [show σ.2.1 + 1 + 1 = σ.2.1 + 2 by omega, m2]); rw [show σ.2.1 + 1 + 1 = σ.2.1 + 2 by omega] at this; exact this⟩
      rcases q_mk_cases hb9 with ⟨h9, rfl⟩ | hb9
      · have h9 : b = σ.2.1 + 1 := h9
        subst h9; exact ⟨by omega, by have := inner 0 (by omega) (by rw [show σ.2.1 + 1 + 0 = σ.2.1 + 1 by omega, m1]); rw [show σ.2.1 + 1 + 0 = σ.2.1 + 1 by omega] at this; exact this⟩
      rcases q_mk_cases hb9 with ⟨h9, rfl⟩ | hb9
      · subst h9; exact ⟨by omega, outer⟩
      obtain ⟨k1, k2⟩ := hR.2.2 b e9 hb9
      exact ⟨by omega, k2.kept (hold _ (by rw [hz]; exact hM.lt h8 hR.1.2 k1))⟩
  obtain ⟨t9, a1, b1⟩ := kk F.heap hRep (q_S_new hS0 (by rw [f1]; omega) hold) F rfl X'
  refine ⟨t9, step t9 ?_, b1⟩
  have e9 : μ σ.2.1 = T.heap.size := by rw [hT, hz]
  rw [← e9]
  exact a1
end
