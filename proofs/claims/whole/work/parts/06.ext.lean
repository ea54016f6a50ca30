/-! What lies outside the small heap: statics, strings, words that the tables' own lists don't keep. -/
def q_isnw : Cond → Bool
  | .methodLinkNest .. => true
  | .declares _ => true
  | .castable .. => true
  | _ => false
def q_nw : List Cond := tables_1.filter q_isnw
theorem q_nw_warm {w : Cond} (hw : q_isnw w = true) {s U : State} (hW : s.WarmedH U.vm) (h : va_Nw w s) : va_Nw w U := by
  cases w <;> first | exact va_Nw.warmM hW h | exact va_Nw.warmD hW h | exact va_Nw.warmC hW h | exact absurd hw (by simp [q_isnw])
def q_AA (U : State) : Prop := (Cond.arrayOver (.array .int)).before #[] U = true
theorem q_AA.moved {u U : State} (hvm : u.vm.Alike U.vm) (h : q_AA u) : q_AA U := over_moved hvm h
section
variable (μ : Nat → Nat) (B : Nat) (fm : Value)
def q_A : Nat → Prop := fun q => B ≤ q
def q_str (U : State) (H : Heap) (a : Nat) : Prop := va_OF "java/lang/String" "value" "[B" (.ref (μ (a + 3))) (μ a) (q_A B) U H ∧ va_OF "java/lang/String" "coder" "B" (.int 0) (μ a) (q_A B) U H ∧ ¬ q_A B (μ a) ∧ ∃ cell : Cell, H[μ a]? = some cell ∧ cell.vm.isStatics = false ∧ U.vm.findClass "java/lang/String" = some cell.cls
def q_X (U : State) (H : Heap) : Prop :=
  va_Z "java/lang/String" "COMPACT_STRINGS" "Z" (.int 1) (q_A B) U H ∧ va_Z "ReedSheets$SheetReader" "TAG_BITS" "[I" (.ref (μ 1)) (q_A B) U H ∧
  va_Z "jdk/internal/util/Preconditions" "SIOOBE_FORMATTER" "Ljava/util/function/BiFunction;" (q_v μ fm) (q_A B) U H ∧
  (q_str μ B U H 2 ∧ q_str μ B U H 3 ∧ q_str μ B U H 4) ∧
  (vk_R "ReedSheets" 16 "father mother wife sister broken taken slave lodger man woman" (μ 2) U ∧ vk_R "ReedSheets" 26 "gap his hers full half called cracked adopted sons sisters village side count and or not let when" (μ 3) U ∧ vk_R "ReedSheets$Tape" 44 "()<=+-*;" (μ 4) U) ∧
  (vx_Zq Bundle.tN "UNASSIGNED_STACK" Bundle.steD (q_A B) U H ∧ vx_Zq Bundle.tN "SUPPRESSED_SENTINEL" Bundle.listD (q_A B) U H) ∧
  (va_AO "ReedSheets$Page" U ∧ va_AO "ReedSheets$Shelf" U ∧ va_AO "ReedSheets$Law" U ∧ q_AA U) ∧ ∀ w ∈ q_nw, va_Nw w U
end
section
variable {μ : Nat → Nat} {B : Nat} {fm : Value}
theorem q_str.go {s U : State} {H H1 : Heap} {a : Nat} (hW : s.WarmedH U.vm) (h : q_str μ B s H a) (hq : ∀ a : Nat, a < H.size → ¬ q_A B a → H1[a]? = H[a]?) : q_str μ B U H1 a := by
  obtain ⟨h1, h2, h3, cell, h4, h5, h6⟩ := h
  refine ⟨(h1.kept hq).moved hW.alike, (h2.kept hq).moved hW.alike, h3, cell, ?_, h5, ?_⟩
  · rw [hq _ (Array.getElem?_eq_some_iff.mp h4).1 h3]; exact h4
  · rw [hW.alike.findClass]; exact h6
theorem q_X.go {s U : State} {H H1 : Heap} (hW : s.WarmedH U.vm) (h : q_X μ B fm s H) (hq : ∀ a : Nat, a < H.size → ¬ q_A B a → H1[a]? = H[a]?) : q_X μ B fm U H1 := by
  obtain ⟨h1, h2, h3, ⟨h4, h5, h6⟩, ⟨h7, h8, h9⟩, ⟨h10, h11⟩, ⟨h12, h13, h14, h15⟩, h16⟩ := h
  exact ⟨(h1.kept hq).moved hW.alike, (h2.kept hq).moved hW.alike, (h3.kept hq).moved hW.alike, ⟨h4.go hW hq, h5.go hW hq, h6.go hW hq⟩, ⟨h7.warm hW, h8.warm hW, h9.warm hW⟩, ⟨(h10.kept hq).moved hW.alike, (h11.kept hq).moved hW.alike⟩,
    ⟨h12.moved hW.alike, h13.moved hW.alike, h14.moved hW.alike, h15.moved hW.alike⟩, fun w hw => q_nw_warm (List.mem_filter.mp hw).2 hW (h16 w hw)⟩
end
/-! Locals -/
def q_al (μ : Nat → Nat) : Nat → q_L → List (Nat × Value)
  | _, [] => []
  | i, none :: t => q_al μ (i + 1) t
  | i, some v :: t => (i, q_v μ v) :: q_al μ (i + 1) t
theorem q_al_mem {μ : Nat → Nat} : ∀ (ls : q_L) (k : Nat) (q : Nat × Value), q ∈ q_al μ k ls ↔ ∃ (j : Nat) (v : Value), ls[j]? = some (some v) ∧ q = (k + j, q_v μ v)
  | [], k, q => by simp [q_al]
  | none :: t, k, q => by
    rw [q_al, q_al_mem t (k + 1) q]
    constructor
    · rintro ⟨j, v, h1, h2⟩
      exact ⟨j + 1, v, by simpa using h1, by rw [h2]; congr 1; omega⟩
    · rintro ⟨j, v, h1, h2⟩
      cases j with
      | zero => simp at h1
      | succ j => exact ⟨j, v, by simpa using h1, by rw [h2]; congr 1; omega⟩
  | some w :: t, k, q => by
    rw [q_al, List.mem_cons, q_al_mem t (k + 1) q]
    constructor
    · rintro (h | ⟨j, v, h1, h2⟩)
      · exact ⟨0, w, by simp, by rw [h]; simp⟩
      · exact ⟨j + 1, v, by simpa using h1, by rw [h2]; congr 1; omega⟩
    · rintro ⟨j, v, h1, h2⟩
      cases j with
      | zero =>
        simp at h1
        subst h1
        exact Or.inl (by rw [h2]; simp)
      | succ j => exact Or.inr ⟨j, v, by simpa using h1, by rw [h2]; congr 1; omega⟩
theorem q_has_sub {L : Array Slot} {n : Nat} {l l' : List (Nat × Value)} (h : lv_has L n l) (hs : ∀ q ∈ l', q ∈ l) : lv_has L n l' := ⟨h.1, h.2.1, fun q hq => h.2.2 q (hs q hq)⟩
theorem q_le_at : ∀ {l m : q_L}, q_le l m → ∀ (j : Nat) (v : Value), l[j]? = some (some v) → m[j]? = some (some v)
  | [], [], _, j, v, h => by simp at h
  | [], _ :: _, h, _, _, _ => by simp [q_le] at h
  | _ :: _, [], h, _, _, _ => by simp [q_le] at h
  | a :: l, b :: m, h, j, v, hj => by
    obtain ⟨h1, h2⟩ := h
    cases j with
    | zero =>
      simp at hj ⊢
      subst hj
      rcases h1 with h1 | h1
      · cases h1
      · exact h1.symm
    | succ j => simpa using q_le_at h2 j v (by simpa using hj)
theorem q_le_refl : ∀ l : q_L, q_le l l
  | [] => trivial
  | _ :: l => ⟨Or.inr rfl, q_le_refl l⟩
theorem q_le_len : ∀ {l m : q_L}, q_le l m → l.length = m.length
  | [], [], _ => rfl
  | [], _ :: _, h => by simp [q_le] at h
  | _ :: _, [], h => by simp [q_le] at h
  | _ :: l, _ :: m, h => by simp [q_le_len h.2]
theorem q_has_le {μ : Nat → Nat} {L : Array Slot} {n : Nat} {l m : q_L} (h : lv_has L n (q_al μ 0 m)) (hl : q_le l m) : lv_has L n (q_al μ 0 l) := by
  refine q_has_sub h fun q hq => ?_
  obtain ⟨j, v, h1, h2⟩ := (q_al_mem l 0 q).mp hq
  exact (q_al_mem m 0 q).mpr ⟨j, v, q_le_at hl j v h1, h2⟩
theorem q_has_at {μ : Nat → Nat} {L : Array Slot} {n : Nat} {ls : q_L} (h : lv_has L n (q_al μ 0 ls)) {k : Nat} {v : Value} (hk : ls[k]? = some (some v)) : L[k]? = some (.val (q_v μ v)) :=
  h.2.2 (k, q_v μ v) ((q_al_mem ls 0 _).mpr ⟨k, v, hk, by simp⟩)
theorem q_set1_at {ls : q_L} {i j : Nat} {v w : Value} (hc : q_c1 ls i) (h : (q_set1 ls i v)[j]? = some (some w)) : (j = i ∧ w = v) ∨ (j ≠ i ∧ ls[j]? = some (some w) ∧ ¬ (j + 1 = i ∧ w.category = 2)) := by
  unfold q_set1 at h
  by_cases hj : j = i
  · subst hj
    left
    refine ⟨rfl, ?_⟩
    rw [List.getElem?_set_self'] at h
    cases hh : ls[j]? <;> simp [hh] at h
    exact h.symm
  · right
    rw [List.getElem?_set_ne (Ne.symm hj)] at h
    refine ⟨hj, h, fun ⟨h1, h2⟩ => ?_⟩
    rcases hc with hc | hc
    · omega
    · have h3 : i - 1 = j := by omega
      rw [h3, h] at hc
      have hc : w.category = 1 := hc
      omega
theorem q_set2_at {ls : q_L} {i j : Nat} {v w : Value} (hc : q_c1 ls i) (h : (q_set2 ls i v)[j]? = some (some w)) : (j = i ∧ w = v) ∨ (j ≠ i ∧ j ≠ i + 1 ∧ ls[j]? = some (some w) ∧ ¬ (j + 1 = i ∧ w.category = 2)) := by
  unfold q_set2 at h
  by_cases hj1 : j = i + 1
  · subst hj1
    rw [List.getElem?_set_self'] at h
    cases hh : (ls.set i (some v))[i + 1]? <;> simp [hh] at h
  · rw [List.getElem?_set_ne (Ne.symm hj1)] at h
    rcases q_set1_at hc h with h | ⟨h1, h2⟩
    · exact Or.inl h
    · exact Or.inr ⟨h1, hj1, h2⟩
theorem q_has_set1 {μ : Nat → Nat} {L : Array Slot} {n : Nat} {ls : q_L} {i : Nat} {v : Value} (hc : q_c1 ls i) (h : lv_has L n ((i, q_v μ v) :: (q_al μ 0 ls).filter (fun q => !(q.1 == i) && !(q.1 + 1 == i && q.2.category == 2)))) : lv_has L n (q_al μ 0 (q_set1 ls i v)) := by
  refine q_has_sub h fun q hq => ?_
  obtain ⟨j, w, h1, h2⟩ := (q_al_mem _ 0 q).mp hq
  rw [Nat.zero_add] at h2
  rcases q_set1_at hc h1 with ⟨h3, h4⟩ | ⟨h3, h4, h5⟩
  · rw [h2, h3, h4]; exact List.mem_cons_self
  · refine List.mem_cons_of_mem _ (List.mem_filter.mpr ⟨(q_al_mem ls 0 q).mpr ⟨j, w, h4, by rw [Nat.zero_add]; exact h2⟩, ?_⟩)
    rw [h2]
    simp only [q_v_cat, Bool.and_eq_true, Bool.not_eq_true', beq_eq_false_iff_ne, Bool.and_eq_false_imp, beq_iff_eq]
    exact ⟨h3, fun h6 h7 => h5 ⟨h6, h7⟩⟩
theorem q_has_set2 {μ : Nat → Nat} {L : Array Slot} {n : Nat} {ls : q_L} {i : Nat} {v : Value} (hc : q_c1 ls i) (h : lv_has L n ((i, q_v μ v) :: (q_al μ 0 ls).filter (fun q => !(q.1 == i) && (!(q.1 == i + 1) && !(q.1 + 1 == i && q.2.category == 2))))) : lv_has L n (q_al μ 0 (q_set2 ls i v)) := by
  refine q_has_sub h fun q hq => ?_
  obtain ⟨j, w, h1, h2⟩ := (q_al_mem _ 0 q).mp hq
  rw [Nat.zero_add] at h2
  rcases q_set2_at hc h1 with ⟨h3, h4⟩ | ⟨h3, h3', h4, h5⟩
  · rw [h2, h3, h4]; exact List.mem_cons_self
  · refine List.mem_cons_of_mem _ (List.mem_filter.mpr ⟨(q_al_mem ls 0 q).mpr ⟨j, w, h4, by rw [Nat.zero_add]; exact h2⟩, ?_⟩)
    rw [h2]
    simp only [q_v_cat, Bool.and_eq_true, Bool.not_eq_true', beq_eq_false_iff_ne, Bool.and_eq_false_imp, beq_iff_eq]
    exact ⟨h3, h3', fun h6 h7 => h5 ⟨h6, h7⟩⟩
theorem q_has_drop {μ : Nat → Nat} {L : Array Slot} {n : Nat} {ls : q_L} {i : Nat} {w : Value} (hc : q_c1 ls i) (h : lv_has L n ((i, w) :: (q_al μ 0 ls).filter (fun q => !(q.1 == i) && !(q.1 + 1 == i && q.2.category == 2)))) : lv_has L n (q_al μ 0 (ls.set i none)) := by
  refine q_has_sub h fun q hq => ?_
  obtain ⟨j, u, h1, h2⟩ := (q_al_mem _ 0 q).mp hq
  rw [Nat.zero_add] at h2
  by_cases hj : j = i
  · subst hj
    rw [List.getElem?_set_self'] at h1
    cases hh : ls[j]? <;> simp [hh] at h1
  · have h3 : (q_set1 ls i .null)[j]? = some (some u) := by
      unfold q_set1
      rw [List.getElem?_set_ne (Ne.symm hj)] at h1 ⊢
      exact h1
    rcases q_set1_at hc h3 with ⟨h4, -⟩ | ⟨h4, h5, h6⟩
    · exact absurd h4 hj
    · refine List.mem_cons_of_mem _ (List.mem_filter.mpr ⟨(q_al_mem ls 0 q).mpr ⟨j, u, h5, by rw [Nat.zero_add]; exact h2⟩, ?_⟩)
      rw [h2]
      simp only [q_v_cat, Bool.and_eq_true, Bool.not_eq_true', beq_eq_false_iff_ne, Bool.and_eq_false_imp, beq_iff_eq]
      exact ⟨h4, fun h7 h8 => h6 ⟨h7, h8⟩⟩
theorem q_al_args {μ : Nat → Nat} : ∀ (vs : List Value) (i : Nat), q_al μ i (q_args vs) = lv_args i (vs.map (q_v μ))
  | [], i => rfl
  | v :: t, i => by
    rw [q_args, List.map_cons, lv_args, q_v_cat]
    by_cases h : v.category = 2
    · rw [if_pos h, if_pos h, q_al, q_al, q_al_args t (i + 1 + 1)]
    · rw [if_neg h, if_neg h, q_al, q_al_args t (i + 1)]
theorem q_args_len {μ : Nat → Nat} : ∀ vs : List Value, (lg_sl (vs.map (q_v μ))).length = (q_args vs).length
  | [] => rfl
  | v :: t => by
    have ih := q_args_len (μ := μ) t
    unfold lg_sl at ih ⊢
    rw [q_args, List.map_cons, List.flatMap_cons, q_v_cat]
    by_cases h : v.category = 2
    · simp [if_pos h, ih]
    · simp [if_neg h, ih]
theorem q_al_rep {μ : Nat → Nat} : ∀ (n i : Nat), q_al μ i (List.replicate n none) = []
  | 0, _ => rfl
  | n + 1, i => by rw [List.replicate_succ, q_al, q_al_rep n]
theorem q_al_app {μ : Nat → Nat} : ∀ (l m : q_L) (i : Nat), q_al μ i (l ++ m) = q_al μ i l ++ q_al μ (i + l.length) m
  | [], m, i => by simp [q_al]
  | none :: l, m, i => by rw [List.cons_append, q_al, q_al, q_al_app l m (i + 1)]; simp only [List.length_cons]; congr 2; omega
  | some v :: l, m, i => by rw [List.cons_append, q_al, q_al, q_al_app l m (i + 1)]; simp only [List.length_cons, List.cons_append]; congr 3; omega
theorem q_entry {μ : Nat → Nat} (vs : List Value) {n : Nat} (h : (q_args vs).length ≤ n) : lv_has ((lg_sl (vs.map (q_v μ)) ++ List.replicate (n - (lg_sl (vs.map (q_v μ))).length) Slot.unset).toArray) n (q_al μ 0 (q_in n vs)) := by
  have h1 := lv_entry (vs.map (q_v μ)) (n := n) (by rw [q_args_len]; exact h)
  rw [← q_al_args] at h1
  unfold q_in
  rw [q_al_app, q_al_rep, List.append_nil]
  exact h1
