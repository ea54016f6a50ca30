/-! The small heap in the machine's: addresses from 8 on lie one behind another from B on. -/
/-- behind it: what was there before and has no place below 8 -/
def q_U : Nat := 1099511627776
def q_v (μ : Nat → Nat) : Value → Value
  | .ref a => .ref (μ a)
  | v => v
theorem q_v_cat (μ : Nat → Nat) (v : Value) : (q_v μ v).category = v.category := by cases v <;> rfl
def q_AO (U : State) (c : ClassId) (ty : FieldType) : Prop := ∃ (k : Class) (comp : ClassId), U.vm.classes[c]? = some k ∧ k.kind = .array comp ty
theorem q_AO.moved {u U : State} {c : ClassId} {ty : FieldType} (hvm : u.vm.Alike U.vm) (h : q_AO u c ty) : q_AO U c ty := by
  obtain ⟨k, comp, h1, h2⟩ := h
  obtain ⟨k', hk', he⟩ := hvm.2.2 _ _ h1
  exact ⟨k', comp, hk', by rw [he]; exact h2⟩
theorem q_AO.is {U : State} {cell : Cell} {ty : FieldType} (h : q_AO U cell.cls ty) (hs : ∀ z, cell.vm ≠ .statics z) : U.isArrayOf cell ty := by
  obtain ⟨k, comp, h1, h2⟩ := h
  exact ⟨hs, k, h1, comp, h2⟩
section
variable (μ : Nat → Nat) (cls : Nat → ClassId) (iS : Nat → Nat → Nat) (X : Nat → ClassId) (B : Nat) (fm : Value)
def q_oc (a : Nat) (c : q_C) (H : Heap) : Prop := ∃ q, q_ct[c.1]? = some q ∧ c.2.length = q.2.2 ∧ t_OB (μ a) (cls c.1) q.2.2 (iS c.1) H (fun k => q_v μ (c.2.getD k .null))
def q_ac (a : Nat) (c : q_C) (H : Heap) : Prop := ∃ ty cell, q_aty c.1 = some ty ∧ (a < 8 → q_xt a = c.1) ∧ H[μ a]? = some cell ∧ cell.cls = (if a < 8 then X a else cls c.1) ∧ cell.vm ≠ .unknown ∧ (∀ z, cell.vm ≠ .statics z) ∧ cell.slots = (c.2.map (q_v μ)).toArray
def q_sc (a : Nat) (c : q_C) : Prop := c = (13, [.ref (a + 3), .int 0]) ∧ 2 ≤ a ∧ a ≤ 4
def q_cell (a : Nat) (c : q_C) (H : Heap) : Prop := q_oc μ cls iS a c H ∨ q_ac μ cls X a c H ∨ q_sc a c
def q_Rep (σ : q_H) (H : Heap) : Prop := (8 ≤ σ.2.1 ∧ σ.2.1 < q_U) ∧ H.size = μ σ.2.1 ∧ ∀ a c, σ.1 a = some c → a < σ.2.1 ∧ q_cell μ cls iS X a c H
def q_Mu : Prop := (∀ a, 8 ≤ a → a < q_U → μ a = B + (a - 8)) ∧ ∀ a, a < 8 → μ a < B
def q_Kn (U : State) : Prop := (∀ t q, q_ct[t]? = some q → u_Kn U q.1 q.2.1 q.2.2 (cls t) (iS t)) ∧ (∀ t ty, q_aty t = some ty → q_AO U (cls t) ty ∧ va_RA U (cls t) ty) ∧ ∀ a ty, a < 8 → q_aty (q_xt a) = some ty → q_AO U (X a) ty
end
section
variable {μ : Nat → Nat} {cls : Nat → ClassId} {iS : Nat → Nat → Nat} {X : Nat → ClassId} {B : Nat} {fm : Value}
theorem q_Kn.moved {u U : State} (hvm : u.vm.Alike U.vm) (h : q_Kn cls iS X u) : q_Kn cls iS X U :=
  ⟨fun t q hq => u_Kn_moved hvm (h.1 t q hq), fun t ty ht => ⟨(h.2.1 t ty ht).1.moved hvm, (h.2.1 t ty ht).2.moved hvm⟩, fun a ty ha ht => (h.2.2 a ty ha ht).moved hvm⟩
theorem q_cell.kept {a : Nat} {c : q_C} {H H1 : Heap} (h : q_cell μ cls iS X a c H) (hq : H1[μ a]? = H[μ a]?) : q_cell μ cls iS X a c H1 := by
  rcases h with ⟨q, h1, h2, h3⟩ | ⟨ty, cell, h1, h2, h3, h4⟩ | h
  · exact Or.inl ⟨q, h1, h2, h3.kept hq⟩
  · exact Or.inr (Or.inl ⟨ty, cell, h1, h2, hq.trans h3, h4⟩)
  · exact Or.inr (Or.inr h)
theorem q_Mu.ne (h : q_Mu μ B) {a b : Nat} (ha : 8 ≤ a) (hu : a < q_U) (hub : b < q_U) (hab : b ≠ a) : μ b ≠ μ a := by
  rw [h.1 a ha hu]
  by_cases hb : 8 ≤ b
  · rw [h.1 b hb hub]; omega
  · have := h.2 b (by omega); omega
theorem q_Mu.lt (h : q_Mu μ B) {a n : Nat} (hn : 8 ≤ n) (hu : n < q_U) (ha : a < n) : μ a < μ n := by
  rw [h.1 n hn hu]
  by_cases hb : 8 ≤ a
  · rw [h.1 a hb (by omega)]; omega
  · have := h.2 a (by omega); omega
theorem q_Mu.ge (h : q_Mu μ B) {a : Nat} (ha : 8 ≤ a) (hu : a < q_U) : B ≤ μ a := by rw [h.1 a ha hu]; omega
theorem q_Mu.succ (h : q_Mu μ B) {a : Nat} (ha : 8 ≤ a) (hu : a + 1 < q_U) : μ (a + 1) = μ a + 1 := by rw [h.1 a ha (by omega), h.1 (a + 1) (by omega) hu]; omega
theorem q_Rep.up {σ : q_H} {H H1 : Heap} {a : Nat} {c : q_C} (hM : q_Mu μ B) (h : q_Rep μ cls iS X σ H) (ha : 8 ≤ a) (hal : a < σ.2.1) (hc : q_cell μ cls iS X a c H1) (hz : H1.size = H.size) (hq : ∀ q, q ≠ μ a → H1[q]? = H[q]?) : q_Rep μ cls iS X (q_up σ a c) H1 := by
  refine ⟨h.1, hz.trans h.2.1, fun b e hb => ?_⟩
  by_cases hba : b = a
  · subst hba
    simp only [q_up, if_true] at hb
    cases hb
    exact ⟨hal, hc⟩
  · simp only [q_up, if_neg hba] at hb
    obtain ⟨h1, h2⟩ := h.2.2 b e hb
    exact ⟨h1, h2.kept (hq _ (hM.ne ha (Nat.lt_trans hal h.1.2) (Nat.lt_trans h1 h.1.2) hba))⟩
theorem q_Rep.mk {σ : q_H} {H H1 : Heap} {t : Nat} {vs : List Value} (hM : q_Mu μ B) (h : q_Rep μ cls iS X σ H) (hU : σ.2.1 + 1 < q_U) (hc : q_cell μ cls iS X σ.2.1 (t, vs) H1) (hz : H1.size = H.size + 1) (hq : ∀ q, q < H.size → H1[q]? = H[q]?) : q_Rep μ cls iS X (q_mk σ t vs) H1 := by
  refine ⟨⟨Nat.le_succ_of_le h.1.1, hU⟩, ?_, fun b e hb => ?_⟩
  · show H1.size = μ (σ.2.1 + 1)
    rw [hz, h.2.1, hM.succ h.1.1 hU]
  · show b < σ.2.1 + 1 ∧ _
    by_cases hba : b = σ.2.1
    · subst hba
      simp only [q_mk, if_true] at hb
      cases hb
      exact ⟨Nat.lt_succ_self _, hc⟩
    · simp only [q_mk, if_neg hba] at hb
      obtain ⟨h1, h2⟩ := h.2.2 b e hb
      exact ⟨Nat.lt_succ_of_lt h1, h2.kept (hq _ (by rw [h.2.1]; exact hM.lt h.1.1 h.1.2 h1))⟩
theorem q_gf_some {σ : q_H} {t a k : Nat} {v : Value} (h : q_gf σ t a k = some v) : ∃ vs, σ.1 a = some (t, vs) ∧ vs[k]? = some v := by
  unfold q_gf at h
  obtain ⟨vs, h1, h2⟩ := Option.bind_eq_some_iff.mp h
  exact ⟨vs, q_ob_some.mp h1, h2⟩
theorem q_ga_some {σ : q_H} {t a : Nat} {i : Int32} {v : Value} (h : q_ga σ t a i = some v) : ¬ i < 0 ∧ ∃ vs, σ.1 a = some (t, vs) ∧ vs[i.toNatClampNeg]? = some v := by
  unfold q_ga at h
  by_cases hi : i < 0
  · rw [if_pos hi] at h; cases h
  · rw [if_neg hi] at h; exact ⟨hi, q_gf_some h⟩
theorem q_sf_some {σ σ1 : q_H} {t a k : Nat} {v : Value} (h : q_sf σ t a k v = some σ1) : ∃ vs, σ.1 a = some (t, vs) ∧ 8 ≤ a ∧ k < vs.length ∧ σ1 = q_up σ a (t, vs.set k v) := by
  unfold q_sf at h
  obtain ⟨vs, h1, h2⟩ := Option.bind_eq_some_iff.mp h
  by_cases hc : 8 ≤ a ∧ k < vs.length
  · rw [if_pos hc] at h2
    cases h2
    exact ⟨vs, q_ob_some.mp h1, hc.1, hc.2, rfl⟩
  · rw [if_neg hc] at h2; cases h2
theorem q_sa_some {σ σ1 : q_H} {t a : Nat} {i : Int32} {v : Value} (h : q_sa σ t a i v = some σ1) : ¬ i < 0 ∧ ∃ vs, σ.1 a = some (t, vs) ∧ 8 ≤ a ∧ i.toNatClampNeg < vs.length ∧ σ1 = q_up σ a (t, vs.set i.toNatClampNeg v) := by
  unfold q_sa at h
  by_cases hi : i < 0
  · rw [if_pos hi] at h; cases h
  · rw [if_neg hi] at h; exact ⟨hi, q_sf_some h⟩
/-- an array's cell, where the tag is an array's -/
theorem q_cell.arr {a : Nat} {t : Nat} {vs : List Value} {H : Heap} {ty : FieldType} (h : q_cell μ cls iS X a (t, vs) H) (ht : q_aty t = some ty) : ∃ cell, (a < 8 → q_xt a = t) ∧ H[μ a]? = some cell ∧ cell.cls = (if a < 8 then X a else cls t) ∧ cell.vm ≠ .unknown ∧ (∀ z, cell.vm ≠ .statics z) ∧ cell.slots = (vs.map (q_v μ)).toArray := by
  have h20 : 20 ≤ t := by
    unfold q_aty at ht
    split at ht <;> first | decide | cases ht
  rcases h with ⟨q, h1, -⟩ | ⟨ty, cell, -, h2⟩ | ⟨h1, -⟩
  · have h3 := (List.getElem?_eq_some_iff.mp h1).1
    simp [q_ct] at h3
    omega
  · exact ⟨cell, h2⟩
  · have h3 : t = 13 := congrArg Prod.fst h1
    omega
theorem q_cell.obj {a t : Nat} {vs : List Value} {H : Heap} {q : vw_C} (h : q_cell μ cls iS X a (t, vs) H) (hq : q_ct[t]? = some q) : vs.length = q.2.2 ∧ t_OB (μ a) (cls t) q.2.2 (iS t) H (fun k => q_v μ (vs.getD k .null)) := by
  have h13 : t < 13 := by
    have h3 := (List.getElem?_eq_some_iff.mp hq).1
    simpa [q_ct] using h3
  rcases h with ⟨r, h1, h2⟩ | ⟨ty, cell, h1, -⟩ | ⟨h1, -⟩
  · cases hq.symm.trans h1
    exact h2
  · have h20 : 20 ≤ t := by
      have h1 : q_aty t = some ty := h1
      unfold q_aty at h1
      split at h1 <;> first | decide | cases h1
    omega
  · have h3 : t = 13 := congrArg Prod.fst h1
    omega
theorem q_Kn.arr {U : State} (hK : q_Kn cls iS X U) {a t : Nat} {ty : FieldType} (ht : q_aty t = some ty) {cell : Cell} (hx : a < 8 → q_xt a = t) (hc : cell.cls = (if a < 8 then X a else cls t)) (hs : ∀ z, cell.vm ≠ .statics z) : U.isArrayOf cell ty := by
  refine q_AO.is ?_ hs
  by_cases h8 : a < 8
  · rw [hc, if_pos h8]
    exact hK.2.2 a ty h8 (by rw [hx h8]; exact ht)
  · rw [hc, if_neg h8]
    exact (hK.2.1 t ty ht).1
end
