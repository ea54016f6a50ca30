/-! One step of the small machine is some steps of the machine. -/
theorem q_dk {own nm : String} {cc : ByteArray} {pc nx a1 a2 p k : Nat} {i : Instr} {z : Int} (h : q_rchk own nm cc (pc, i, nx, a1, a2, z) p = true) (hk : q_len i = k) (h0 : 0 < k) : decode cc pc = .ok (i, k) ∧ nx = pc + k := by
  unfold q_rchk at h
  simp only [Bool.and_eq_true, decide_eq_true_eq] at h
  obtain ⟨⟨⟨h1, -⟩, h3⟩, -⟩ := h
  rw [hk] at h3
  have h4 : nx = pc + k := by omega
  rw [h4, Nat.add_sub_cancel_left] at h1
  exact ⟨h1, h4⟩
theorem q_de {own nm : String} {cc : ByteArray} {pc nx a1 a2 p : Nat} {i : Instr} {z : Int} (h : q_rchk own nm cc (pc, i, nx, a1, a2, z) p = true) : decode cc pc = .ok (i, nx - pc) := by
  unfold q_rchk at h
  simp only [Bool.and_eq_true, decide_eq_true_eq] at h
  exact h.1.1.1
theorem q_tg_ok {r : q_R} {off : Int} (h : q_tg r off = true) : (r.1 : Int) + off = (r.2.2.2.1 : Int) := of_decide_eq_true h
section
variable (μ : Nat → Nat) (cls : Nat → ClassId) (iS : Nat → Nat → Nat) (X : Nat → ClassId) (B : Nat) (fm : Value)
def q_Ctx (p : Program) (s : State) (m : MethodId) (args : Array Value) (meth : Method) (c : Code) (M : q_M) : Prop :=
  p.tables.exec = Jvm.exec ∧ c.code = M.2.1 ∧ c.maxLocals = M.2.2.1 ∧ s.vm.findClass M.1.cls = some m.cls ∧ (∀ w ∈ q_tbl, w.before args s = true) ∧ q_Mu μ B ∧ q_Kn cls iS X s ∧ q_X μ B fm s s.heap ∧ (M.1.name = "<init>" → meth.name = "<init>") ∧ (¬ M.2.2.2.2.1 = [] → c.exceptionTable.toList = tableOf M.2.2.2.2.1)
end
section
variable {μ : Nat → Nat} {cls : Nat → ClassId} {iS : Nat → Nat → Nat} {X : Nat → ClassId} {B : Nat} {fm : Value}
variable {p : Program} {l : Launch} {e : Env} {R : Room} {s : State} {m : MethodId} {args : Array Value} {below : List Frame} {meth : Method} {c : Code} {Q : State → Prop} {H : Heap} {locs : List Loc} {cells slots : Nat} {L : Array Slot}
variable {M : q_M}
def q_s1 : Instr → Bool
  | .putfield _ | .iastore | .lastore | .bastore | .castore | .aastore | .newarray _ | .anewarray _ | .multianewarray _ _ | .new _ | .invokespecial _ | .invokestatic _ | .invokevirtual _ | .ireturn | .lreturn | .areturn | .return_ => false
  | _ => true
/-- instructions that leave the heap as it is, and calls none -/
theorem q_step1 (hC : q_Ctx μ cls iS X B fm p s m args meth c M) {Ms : Nat → Option q_M} {C : Nat → List Value → q_H → q_O → q_H → Prop} {d : Nat} {o : q_O} {σ σ' : q_H} {K : Nat → q_L → List Value → q_H → Prop} {pc nx a1 a2 pp : Nat} {i : Instr} {z : Int} {ls : q_L} {st : List Value} (hchk : q_rchk M.1.cls M.1.name M.2.1 (pc, i, nx, a1, a2, z) pp = true) (hR : q_Rep μ cls iS X σ H) (hS : va_S (q_A B) s.heap H locs) (hl : lv_has L M.2.2.1 (q_al μ 0 ls)) (hln : ls.length = M.2.2.1)
    (go : ∀ (pc' : Nat) (ls' : q_L) (st' : List Value) (L1 : Array Slot), ls'.length = M.2.2.1 → K pc' ls' st' σ → lv_has L1 M.2.2.1 (q_al μ 0 ls') → W p l e R s m args below meth c H locs cells slots Q (F0 m pc' L1 (st'.map (q_v μ))))
    (hno : q_s1 i = true)
    (h : q_one fm Ms C d M (pc, i, nx, a1, a2, z) K ls st σ o σ') : W p l e R s m args below meth c H locs cells slots Q (F0 m pc L (st.map (q_v μ))) := by
  obtain ⟨hx, hb, hml, hown, hts, hMu, hKn, hXx, hin, hex⟩ := hC
  have hlen1 : ∀ (k : Nat) (v : Value), (q_set1 ls k v).length = M.2.2.1 := fun k v => by rw [q_set1, List.length_set]; exact hln
  have hlen2 : ∀ (k : Nat) (v : Value), (q_set2 ls k v).length = M.2.2.1 := fun k v => by rw [q_set2, List.length_set, List.length_set]; exact hln
  cases i with
  | aconst_null =>
    obtain ⟨hd, rfl⟩ := q_dk (k := 1) hchk rfl (by decide)
    exact lv_null hx hb hd (go _ _ _ _ hln h hl)
  | iconst n =>
    obtain ⟨hd, rfl⟩ := q_dk (k := 1) hchk rfl (by decide)
    exact lv_iconst hx hb hd rfl (go _ _ _ _ hln h hl)
  | lconst n =>
    obtain ⟨hd, rfl⟩ := q_dk (k := 1) hchk rfl (by decide)
    exact lv_lconst hx hb hd rfl (go _ _ _ _ hln h hl)
  | bipush n =>
    obtain ⟨hd, rfl⟩ := q_dk (k := 2) hchk rfl (by decide)
    exact lv_bipush hx hb hd rfl (go _ _ _ _ hln h hl)
  | sipush n =>
    obtain ⟨hd, rfl⟩ := q_dk (k := 3) hchk rfl (by decide)
    exact lv_sipush hx hb hd rfl (go _ _ _ _ hln h hl)
  | ldc idx =>
    obtain ⟨hd, rfl⟩ := q_dk (k := 2) hchk rfl (by decide)
    have hk := go _ _ _ _ hln h hl
    unfold q_rchk at hchk
    simp only [Bool.and_eq_true, Bool.or_eq_true, decide_eq_true_eq, Prod.mk.injEq] at hchk
    obtain ⟨-, -, -, -, ⟨h7, h8, h9⟩, -⟩ := hXx
    rcases hchk.2 with (⟨e1, e2, e3⟩ | ⟨e1, e2, e3⟩) | ⟨e1, e2, e3⟩
    · subst e2; subst e3
      rw [e1] at hown
      exact va_ldcS hx hb hown h7 hd hk
    · subst e2; subst e3
      rw [e1] at hown
      exact va_ldcS hx hb hown h8 hd hk
    · subst e2; subst e3
      rw [e1] at hown
      exact va_ldcS hx hb hown h9 hd hk
  | ldc2_w idx =>
    obtain ⟨hd, rfl⟩ := q_dk (k := 3) hchk rfl (by decide)
    have hk := go _ _ _ _ hln h hl
    unfold q_rchk at hchk
    simp only [Bool.and_eq_true] at hchk
    exact lv_ldc2 hx hb hown (hts _ (q_w_in hchk.2)) hd hk
  | iload k =>
    obtain ⟨hd, rfl⟩ := q_dk (k := 2) hchk rfl (by decide)
    obtain ⟨x, h1, h2⟩ := h
    exact lv_iload hx hb hd (q_has_at hl h1) (go _ _ _ _ hln h2 hl)
  | iload_n k =>
    obtain ⟨hd, rfl⟩ := q_dk (k := 1) hchk rfl (by decide)
    obtain ⟨x, h1, h2⟩ := h
    exact lv_iload_n hx hb hd rfl (q_has_at hl h1) (go _ _ _ _ hln h2 hl)
  | lload k =>
    obtain ⟨hd, rfl⟩ := q_dk (k := 2) hchk rfl (by decide)
    obtain ⟨x, h1, h2⟩ := h
    exact lv_lload hx hb hd (q_has_at hl h1) (go _ _ _ _ hln h2 hl)
  | lload_n k =>
    obtain ⟨hd, rfl⟩ := q_dk (k := 1) hchk rfl (by decide)
    obtain ⟨x, h1, h2⟩ := h
    exact lv_lload_n hx hb hd rfl (q_has_at hl h1) (go _ _ _ _ hln h2 hl)
  | aload k =>
    obtain ⟨hd, rfl⟩ := q_dk (k := 2) hchk rfl (by decide)
    obtain ⟨v, h1, (rfl | ⟨a, rfl⟩), h2⟩ := h
    · exact lv_aloadN hx hb hd (q_has_at hl h1) (go _ _ _ _ hln h2 hl)
    · exact lv_aload hx hb hd (q_has_at hl h1) (go _ _ _ _ hln h2 hl)
  | aload_n k =>
    obtain ⟨hd, rfl⟩ := q_dk (k := 1) hchk rfl (by decide)
    obtain ⟨v, h1, (rfl | ⟨a, rfl⟩), h2⟩ := h
    · exact lv_aload_nN hx hb hd rfl (q_has_at hl h1) (go _ _ _ _ hln h2 hl)
    · exact lv_aload_n hx hb hd rfl (q_has_at hl h1) (go _ _ _ _ hln h2 hl)
  | istore k =>
    obtain ⟨hd, rfl⟩ := q_dk (k := 2) hchk rfl (by decide)
    obtain ⟨x, t, rfl, h1, h2, h3⟩ := h
    exact lv_istore hx hb hd hl (by omega) rfl (fun L1 hl1 => go _ _ _ _ (hlen1 _ _) h3 (q_has_set1 (v := .int x) h2 hl1))
  | istore_n k =>
    obtain ⟨hd, rfl⟩ := q_dk (k := 1) hchk rfl (by decide)
    obtain ⟨x, t, rfl, h1, h2, h3⟩ := h
    exact lv_istore_n hx hb hd rfl hl (by omega) rfl (fun L1 hl1 => go _ _ _ _ (hlen1 _ _) h3 (q_has_set1 (v := .int x) h2 hl1))
  | lstore k =>
    obtain ⟨hd, rfl⟩ := q_dk (k := 2) hchk rfl (by decide)
    obtain ⟨x, t, rfl, h1, h2, h3⟩ := h
    exact lv_lstore hx hb hd hl (by omega) rfl (fun L1 hl1 => go _ _ _ _ (hlen2 _ _) h3 (q_has_set2 (v := .long x) h2 hl1))
  | lstore_n k =>
    obtain ⟨hd, rfl⟩ := q_dk (k := 1) hchk rfl (by decide)
    obtain ⟨x, t, rfl, h1, h2, h3⟩ := h
    exact lv_lstore_n hx hb hd rfl hl (by omega) rfl (fun L1 hl1 => go _ _ _ _ (hlen2 _ _) h3 (q_has_set2 (v := .long x) h2 hl1))
  | astore k =>
    obtain ⟨hd, rfl⟩ := q_dk (k := 2) hchk rfl (by decide)
    obtain ⟨v, t, rfl, (rfl | ⟨a, rfl⟩), h1, h2, h3⟩ := h
    · exact lv_astoreN hx hb hd hl (by omega) rfl (fun L1 hl1 => go _ _ _ _ (hlen1 _ _) h3 (q_has_set1 (v := .null) h2 hl1))
    · exact lv_astore hx hb hd hl (by omega) rfl (fun L1 hl1 => go _ _ _ _ (hlen1 _ _) h3 (q_has_set1 (v := .ref a) h2 hl1))
  | astore_n k =>
    obtain ⟨hd, rfl⟩ := q_dk (k := 1) hchk rfl (by decide)
    obtain ⟨v, t, rfl, (rfl | ⟨a, rfl⟩), h1, h2, h3⟩ := h
    · exact lv_astore_nN hx hb hd rfl hl (by omega) rfl (fun L1 hl1 => go _ _ _ _ (hlen1 _ _) h3 (q_has_set1 (v := .null) h2 hl1))
    · exact lv_astore_n hx hb hd rfl hl (by omega) rfl (fun L1 hl1 => go _ _ _ _ (hlen1 _ _) h3 (q_has_set1 (v := .ref a) h2 hl1))
  | iinc k n =>
    obtain ⟨hd, rfl⟩ := q_dk (k := 3) hchk rfl (by decide)
    obtain ⟨x, h1, h2, h3⟩ := h
    have hkl := (List.getElem?_eq_some_iff.mp h1).1
    obtain ⟨kk, hkk⟩ := List.getElem?_of_mem ((q_al_mem (μ := μ) ls 0 (k, .int x)).mpr ⟨k, .int x, h1, by simp [q_v]⟩)
    exact lv_iinc hx hb hd hl (k := kk) hkk rfl (by omega) rfl (fun L1 hl1 => go _ _ _ _ (hlen1 _ _) h3 (q_has_set1 (v := .int (x + Int32.ofInt n)) h2 hl1))
  | pop =>
    obtain ⟨hd, rfl⟩ := q_dk (k := 1) hchk rfl (by decide)
    obtain ⟨v, t, rfl, h1, h2⟩ := h
    exact lv_pop hx hb hd (by rw [q_v_cat]; exact h1) (go _ _ _ _ hln h2 hl)
  | dup =>
    obtain ⟨hd, rfl⟩ := q_dk (k := 1) hchk rfl (by decide)
    obtain ⟨v, t, rfl, h1, h2⟩ := h
    exact lv_dup hx hb hd (by rw [q_v_cat]; exact h1) (go _ _ _ _ hln h2 hl)
  | dup2 =>
    obtain ⟨hd, rfl⟩ := q_dk (k := 1) hchk rfl (by decide)
    obtain ⟨v, w, t, rfl, h1, h2, h3⟩ := h
    exact lv_dup2_11 hx hb hd (by rw [q_v_cat]; exact h1) (by rw [q_v_cat]; exact h2) (go _ _ _ _ hln h3 hl)
  | iadd =>
    obtain ⟨hd, rfl⟩ := q_dk (k := 1) hchk rfl (by decide)
    obtain ⟨x, y, t, rfl, h1⟩ := h
    exact lv_iadd hx hb hd (go _ _ _ _ hln h1 hl)
  | isub =>
    obtain ⟨hd, rfl⟩ := q_dk (k := 1) hchk rfl (by decide)
    obtain ⟨x, y, t, rfl, h1⟩ := h
    exact lv_isub hx hb hd (go _ _ _ _ hln h1 hl)
  | imul =>
    obtain ⟨hd, rfl⟩ := q_dk (k := 1) hchk rfl (by decide)
    obtain ⟨x, y, t, rfl, h1⟩ := h
    exact lv_imul hx hb hd (go _ _ _ _ hln h1 hl)
  | idiv =>
    obtain ⟨hd, rfl⟩ := q_dk (k := 1) hchk rfl (by decide)
    obtain ⟨x, y, t, rfl, h0, h1⟩ := h
    exact lv_idiv hx hb hd h0 (go _ _ _ _ hln h1 hl)
  | irem =>
    obtain ⟨hd, rfl⟩ := q_dk (k := 1) hchk rfl (by decide)
    obtain ⟨x, y, t, rfl, h0, h1⟩ := h
    exact lv_irem hx hb hd h0 (go _ _ _ _ hln h1 hl)
  | ineg =>
    obtain ⟨hd, rfl⟩ := q_dk (k := 1) hchk rfl (by decide)
    obtain ⟨x, t, rfl, h1⟩ := h
    exact lv_ineg hx hb hd (go _ _ _ _ hln h1 hl)
  | iand =>
    obtain ⟨hd, rfl⟩ := q_dk (k := 1) hchk rfl (by decide)
    obtain ⟨x, y, t, rfl, h1⟩ := h
    exact lv_iand hx hb hd (go _ _ _ _ hln h1 hl)
  | ior =>
    obtain ⟨hd, rfl⟩ := q_dk (k := 1) hchk rfl (by decide)
    obtain ⟨x, y, t, rfl, h1⟩ := h
    exact lv_ior hx hb hd (go _ _ _ _ hln h1 hl)
  | ishl =>
    obtain ⟨hd, rfl⟩ := q_dk (k := 1) hchk rfl (by decide)
    obtain ⟨x, y, t, rfl, h1⟩ := h
    exact lv_ishl hx hb hd (go _ _ _ _ hln h1 hl)
  | ishr =>
    obtain ⟨hd, rfl⟩ := q_dk (k := 1) hchk rfl (by decide)
    obtain ⟨x, y, t, rfl, h1⟩ := h
    exact lv_ishr hx hb hd (go _ _ _ _ hln h1 hl)
  | ladd =>
    obtain ⟨hd, rfl⟩ := q_dk (k := 1) hchk rfl (by decide)
    obtain ⟨x, y, t, rfl, h1⟩ := h
    exact lv_ladd hx hb hd (go _ _ _ _ hln h1 hl)
  | lsub =>
    obtain ⟨hd, rfl⟩ := q_dk (k := 1) hchk rfl (by decide)
    obtain ⟨x, y, t, rfl, h1⟩ := h
    exact lv_lsub hx hb hd (go _ _ _ _ hln h1 hl)
  | lmul =>
    obtain ⟨hd, rfl⟩ := q_dk (k := 1) hchk rfl (by decide)
    obtain ⟨x, y, t, rfl, h1⟩ := h
    exact lv_lmul hx hb hd (go _ _ _ _ hln h1 hl)
  | ldiv =>
    obtain ⟨hd, rfl⟩ := q_dk (k := 1) hchk rfl (by decide)
    obtain ⟨x, y, t, rfl, h0, h1⟩ := h
    exact lv_ldiv hx hb hd h0 (go _ _ _ _ hln h1 hl)
  | lrem =>
    obtain ⟨hd, rfl⟩ := q_dk (k := 1) hchk rfl (by decide)
    obtain ⟨x, y, t, rfl, h0, h1⟩ := h
    exact lv_lrem hx hb hd h0 (go _ _ _ _ hln h1 hl)
  | lneg =>
    obtain ⟨hd, rfl⟩ := q_dk (k := 1) hchk rfl (by decide)
    obtain ⟨x, t, rfl, h1⟩ := h
    exact lv_lneg hx hb hd (go _ _ _ _ hln h1 hl)
  | land =>
    obtain ⟨hd, rfl⟩ := q_dk (k := 1) hchk rfl (by decide)
    obtain ⟨x, y, t, rfl, h1⟩ := h
    exact lv_land hx hb hd (go _ _ _ _ hln h1 hl)
  | lor =>
    obtain ⟨hd, rfl⟩ := q_dk (k := 1) hchk rfl (by decide)
    obtain ⟨x, y, t, rfl, h1⟩ := h
    exact lv_lor hx hb hd (go _ _ _ _ hln h1 hl)
  | lshl =>
    obtain ⟨hd, rfl⟩ := q_dk (k := 1) hchk rfl (by decide)
    obtain ⟨x, y, t, rfl, h1⟩ := h
    exact lv_lshl hx hb hd rfl (go _ _ _ _ hln h1 hl)
  | lushr =>
    obtain ⟨hd, rfl⟩ := q_dk (k := 1) hchk rfl (by decide)
    obtain ⟨x, y, t, rfl, h1⟩ := h
    exact lv_lushr hx hb hd rfl (go _ _ _ _ hln h1 hl)
  | lcmp =>
    obtain ⟨hd, rfl⟩ := q_dk (k := 1) hchk rfl (by decide)
    obtain ⟨x, y, t, rfl, h1⟩ := h
    exact W.lcmp hx hb hd (go _ _ _ _ hln h1 hl)
  | i2l =>
    obtain ⟨hd, rfl⟩ := q_dk (k := 1) hchk rfl (by decide)
    obtain ⟨x, t, rfl, h1⟩ := h
    exact lv_i2l hx hb hd rfl (go _ _ _ _ hln h1 hl)
  | l2i =>
    obtain ⟨hd, rfl⟩ := q_dk (k := 1) hchk rfl (by decide)
    obtain ⟨x, t, rfl, h1⟩ := h
    exact lv_l2i hx hb hd rfl (go _ _ _ _ hln h1 hl)
  | i2c =>
    obtain ⟨hd, rfl⟩ := q_dk (k := 1) hchk rfl (by decide)
    obtain ⟨x, t, rfl, h1⟩ := h
    exact lv_i2c hx hb hd rfl (go _ _ _ _ hln h1 hl)
  | i2b =>
    obtain ⟨hd, rfl⟩ := q_dk (k := 1) hchk rfl (by decide)
    obtain ⟨x, t, rfl, h1⟩ := h
    exact lv_i2b hx hb hd rfl (go _ _ _ _ hln h1 hl)
  | ifCond cnd off =>
    obtain ⟨hd, rfl⟩ := q_dk (k := 3) hchk rfl (by decide)
    obtain ⟨x, t, rfl, h1⟩ := h
    unfold q_rchk at hchk
    simp only [Bool.and_eq_true] at hchk
    have ht := q_tg_ok hchk.2
    cases cnd with
    | eq => exact lv_if_eq hx hb hd ht (fun q => go _ _ _ _ hln (by rw [if_pos (by simp [q_cc, q])] at h1; exact h1) hl) (fun q => go _ _ _ _ hln (by rw [if_neg (by simp [q_cc, q])] at h1; exact h1) hl)
    | ne => exact lv_if_ne hx hb hd ht (fun q => go _ _ _ _ hln (by rw [if_pos (by simp [q_cc, q])] at h1; exact h1) hl) (fun q => go _ _ _ _ hln (by rw [if_neg (by simp [q_cc, q])] at h1; exact h1) hl)
    | lt => exact lv_if_lt hx hb hd ht (fun q => go _ _ _ _ hln (by rw [if_pos (by simp only [q_cc, decide_eq_true_eq]; exact q)] at h1; exact h1) hl) (fun q => go _ _ _ _ hln (by rw [if_neg (by simp only [q_cc, decide_eq_true_eq]; exact q)] at h1; exact h1) hl)
    | ge => exact lv_if_ge hx hb hd ht (fun q => go _ _ _ _ hln (by rw [if_pos (by simp only [q_cc, decide_eq_true_eq]; exact q)] at h1; exact h1) hl) (fun q => go _ _ _ _ hln (by rw [if_neg (by simp only [q_cc, decide_eq_true_eq]; exact q)] at h1; exact h1) hl)
    | gt => exact lv_if_gt hx hb hd ht (fun q => go _ _ _ _ hln (by rw [if_pos (by simp only [q_cc, decide_eq_true_eq]; exact q)] at h1; exact h1) hl) (fun q => go _ _ _ _ hln (by rw [if_neg (by simp only [q_cc, decide_eq_true_eq]; exact q)] at h1; exact h1) hl)
    | le => exact lv_if_le hx hb hd ht (fun q => go _ _ _ _ hln (by rw [if_pos (by simp only [q_cc, decide_eq_true_eq]; exact q)] at h1; exact h1) hl) (fun q => go _ _ _ _ hln (by rw [if_neg (by simp only [q_cc, decide_eq_true_eq]; exact q)] at h1; exact h1) hl)
  | if_icmp cnd off =>
    obtain ⟨hd, rfl⟩ := q_dk (k := 3) hchk rfl (by decide)
    obtain ⟨x, y, t, rfl, h1⟩ := h
    unfold q_rchk at hchk
    simp only [Bool.and_eq_true] at hchk
    have ht := q_tg_ok hchk.2
    cases cnd with
    | eq => exact lv_icmp_eq hx hb hd ht (fun q => go _ _ _ _ hln (by rw [if_pos (by simp [q_cc, q])] at h1; exact h1) hl) (fun q => go _ _ _ _ hln (by rw [if_neg (by simp [q_cc, q])] at h1; exact h1) hl)
    | ne => exact lv_icmp_ne hx hb hd ht (fun q => go _ _ _ _ hln (by rw [if_pos (by simp [q_cc, q])] at h1; exact h1) hl) (fun q => go _ _ _ _ hln (by rw [if_neg (by simp [q_cc, q])] at h1; exact h1) hl)
    | lt => exact lv_icmp_lt hx hb hd ht (fun q => go _ _ _ _ hln (by rw [if_pos (by simp only [q_cc, decide_eq_true_eq]; exact q)] at h1; exact h1) hl) (fun q => go _ _ _ _ hln (by rw [if_neg (by simp only [q_cc, decide_eq_true_eq]; exact q)] at h1; exact h1) hl)
    | ge => exact lv_icmp_ge hx hb hd ht (fun q => go _ _ _ _ hln (by rw [if_pos (by simp only [q_cc, decide_eq_true_eq]; exact q)] at h1; exact h1) hl) (fun q => go _ _ _ _ hln (by rw [if_neg (by simp only [q_cc, decide_eq_true_eq]; exact q)] at h1; exact h1) hl)
    | gt => exact lv_icmp_gt hx hb hd ht (fun q => go _ _ _ _ hln (by rw [if_pos (by simp only [q_cc, decide_eq_true_eq]; exact q)] at h1; exact h1) hl) (fun q => go _ _ _ _ hln (by rw [if_neg (by simp only [q_cc, decide_eq_true_eq]; exact q)] at h1; exact h1) hl)
    | le => exact lv_icmp_le hx hb hd ht (fun q => go _ _ _ _ hln (by rw [if_pos (by simp only [q_cc, decide_eq_true_eq]; exact q)] at h1; exact h1) hl) (fun q => go _ _ _ _ hln (by rw [if_neg (by simp only [q_cc, decide_eq_true_eq]; exact q)] at h1; exact h1) hl)
  | ifnull off =>
    obtain ⟨hd, rfl⟩ := q_dk (k := 3) hchk rfl (by decide)
    obtain ⟨v, t, rfl, h1⟩ := h
    unfold q_rchk at hchk
    simp only [Bool.and_eq_true] at hchk
    have ht := q_tg_ok hchk.2
    rcases h1 with ⟨rfl, h1⟩ | ⟨⟨a, rfl⟩, h1⟩
    · exact lv_ifnullN hx hb hd ht (go _ _ _ _ hln h1 hl)
    · exact lv_ifnull hx hb hd (go _ _ _ _ hln h1 hl)
  | ifnonnull off =>
    obtain ⟨hd, rfl⟩ := q_dk (k := 3) hchk rfl (by decide)
    obtain ⟨v, t, rfl, h1⟩ := h
    unfold q_rchk at hchk
    simp only [Bool.and_eq_true] at hchk
    have ht := q_tg_ok hchk.2
    rcases h1 with ⟨rfl, h1⟩ | ⟨⟨a, rfl⟩, h1⟩
    · exact lv_ifnonnullN hx hb hd (go _ _ _ _ hln h1 hl)
    · exact lv_ifnonnull hx hb hd ht (go _ _ _ _ hln h1 hl)
  | goto off =>
    obtain ⟨hd, rfl⟩ := q_dk (k := 3) hchk rfl (by decide)
    unfold q_rchk at hchk
    simp only [Bool.and_eq_true] at hchk
    exact lv_goto hx hb hd (q_tg_ok hchk.2) (go _ _ _ _ hln h hl)
  | tableswitch df lo hi offs =>
    have hd := q_de hchk
    obtain ⟨x, t, rfl, tgt, h1, h2, h3⟩ := h
    by_cases hc : x.toInt < lo ∨ hi < x.toInt
    · rw [if_pos hc] at h1
      exact lv_tableOut hx hb hd hc h1 (go _ _ _ _ hln h3 hl)
    · rw [if_neg hc] at h1
      have h4 : (x.toInt - lo).toNat < offs.size := by
        rcases h2 with h2 | h2 | h2
        · exact absurd (Or.inl h2) hc
        · exact absurd (Or.inr h2) hc
        · exact h2
      refine lv_tableIn hx hb hd (fun q => hc (Or.inl q)) (fun q => hc (Or.inr q)) (off := offs.getD (x.toInt - lo).toNat df) ?_ h1 (go _ _ _ _ hln h3 hl)
      rw [Array.getElem?_eq_getElem h4, Array.getD_eq_getD_getElem?, Array.getElem?_eq_getElem h4]
      rfl
  | getfield idx =>
    obtain ⟨hd, rfl⟩ := q_dk (k := 3) hchk rfl (by decide)
    obtain ⟨a, t, v, rfl, h1, h2⟩ := h
    have hk := go _ _ _ _ hln h2 hl
    unfold q_rchk at hchk
    simp only [Bool.and_eq_true] at hchk
    have hc2 := hchk.2
    by_cases h13 : a1 = 13
    · subst h13
      rw [if_pos rfl] at hc2
      obtain ⟨vs, g1, g2⟩ := q_gf_some h1
      have hstr : q_str μ B s s.heap a ∧ vs = [.ref (a + 3), .int 0] := by
        rcases (hR.2.2 a _ g1).2 with ⟨q, k1, -⟩ | ⟨ty, cell, k1, -⟩ | ⟨k1, k2, k3⟩
        · have k3 := (List.getElem?_eq_some_iff.mp k1).1
          simp [q_ct] at k3
        · exact absurd k1 (by simp [q_aty])
        · obtain ⟨-, -, -, ⟨h4, h5, h6⟩, -⟩ := hXx
          refine ⟨?_, congrArg Prod.snd k1⟩
          have e9 : a = 2 ∨ a = 3 ∨ a = 4 := by
            rcases Nat.lt_or_ge a 3 with q | q
            · left; omega
            · rcases Nat.lt_or_ge a 4 with q2 | q2
              · right; left; omega
              · right; right; omega
          rcases e9 with rfl | rfl | rfl
          · exact h4
          · exact h5
          · exact h6
      obtain ⟨⟨s1, s2, s3, -⟩, rfl⟩ := hstr
      by_cases h0 : a2 = 0
      · subst h0
        rw [if_pos rfl] at hc2
        cases g2
        exact vk_getf hx hb s1 hS hown (hts _ (q_w_in hc2)) (fun _ q => q) hd hk
      · rw [if_neg h0] at hc2
        simp only [Bool.and_eq_true, decide_eq_true_eq] at hc2
        obtain ⟨rfl, hc2⟩ := hc2
        cases g2
        exact vk_getf hx hb s2 hS hown (hts _ (q_w_in hc2)) (fun _ q => q) hd hk
    · rw [if_neg h13] at hc2
      cases hq : q_ct[a1]? with
      | none => rw [hq] at hc2; cases hc2
      | some q =>
        rw [hq] at hc2
        simp only [Bool.and_eq_true, decide_eq_true_eq] at hc2
        exact q_getf hx hb hts hown hKn hR hq hc2.1.1 (q_w_in hc2.2) hc2.1.2 h1 hd hk
  | getstatic idx =>
    obtain ⟨hd, rfl⟩ := q_dk (k := 3) hchk rfl (by decide)
    have hk := go _ _ _ _ hln h hl
    unfold q_rchk at hchk
    simp only [Bool.and_eq_true] at hchk
    have hc2 := hchk.2
    obtain ⟨h1, h2, h3, -⟩ := hXx
    match a1, hc2, hk with
    | 0, hc2, hk => exact va_gets hx hb h1 hS hown (hts _ (q_w_in hc2)) (fun _ q => q) hd hk
    | 1, hc2, hk => exact va_gets hx hb h2 hS hown (hts _ (q_w_in hc2)) (fun _ q => q) hd hk
    | 2, hc2, hk => exact va_gets hx hb h3 hS hown (hts _ (q_w_in hc2)) (fun _ q => q) hd hk
    | n + 3, hc2, hk => cases hc2
  | iaload =>
    obtain ⟨hd, rfl⟩ := q_dk (k := 1) hchk rfl (by decide)
    obtain ⟨a, i, t, v, rfl, h1, h2⟩ := h
    obtain ⟨cell, k1, k2, k3, k4, k5⟩ := q_ld (ty := .int) hKn hR rfl h1
    exact W.iald hx hb k1 k2 k3 k4 k5 rfl rfl hd (go _ _ _ _ hln h2 hl)
  | laload =>
    obtain ⟨hd, rfl⟩ := q_dk (k := 1) hchk rfl (by decide)
    obtain ⟨a, i, t, v, rfl, h1, h2⟩ := h
    obtain ⟨cell, k1, k2, k3, k4, k5⟩ := q_ld (ty := .long) hKn hR rfl h1
    exact W.lald hx hb k1 k2 k3 k4 k5 rfl rfl hd (go _ _ _ _ hln h2 hl)
  | caload =>
    obtain ⟨hd, rfl⟩ := q_dk (k := 1) hchk rfl (by decide)
    obtain ⟨a, i, t, v, rfl, h1, h2⟩ := h
    obtain ⟨cell, k1, k2, k3, k4, k5⟩ := q_ld (ty := .char) hKn hR rfl h1
    exact W.cald hx hb k1 k2 k3 k4 k5 rfl rfl hd (go _ _ _ _ hln h2 hl)
  | baload =>
    obtain ⟨hd, rfl⟩ := q_dk (k := 1) hchk rfl (by decide)
    obtain ⟨a, i, t, v, rfl, h0, h1, h2⟩ := h
    rcases h0 with h0 | h0
    · have h0 : a1 = 22 := h0
      subst h0
      obtain ⟨cell, k1, k2, k3, k4, k5⟩ := q_ld (ty := .boolean) hKn hR rfl h1
      exact W.zald hx hb k1 k2 k3 k4 k5 rfl rfl hd (go _ _ _ _ hln h2 hl)
    · have h0 : a1 = 24 := h0
      subst h0
      obtain ⟨cell, k1, k2, k3, k4, k5⟩ := q_ld (ty := .byte) hKn hR rfl h1
      exact W.bald hx hb k1 k2 k3 k4 k5 rfl rfl hd (go _ _ _ _ hln h2 hl)
  | aaload =>
    obtain ⟨hd, rfl⟩ := q_dk (k := 1) hchk rfl (by decide)
    obtain ⟨a, i, t, v, rfl, h0, h0', h1, h2⟩ := h
    have h0 : 25 ≤ a1 := h0
    have h0' : a1 ≤ 28 := h0'
    obtain ⟨ty, hty, href⟩ : ∃ ty, q_aty a1 = some ty ∧ ty.isReference = true := by
      rcases (by omega : a1 = 25 ∨ a1 = 26 ∨ a1 = 27 ∨ a1 = 28) with rfl | rfl | rfl | rfl <;> exact ⟨_, rfl, rfl⟩
    obtain ⟨cell, k1, k2, k3, k4, k5⟩ := q_ld hKn hR hty h1
    exact W.aald hx hb k1 k2 href k3 k4 k5 rfl rfl hd (go _ _ _ _ hln h2 hl)
  | arraylength =>
    obtain ⟨hd, rfl⟩ := q_dk (k := 1) hchk rfl (by decide)
    obtain ⟨a, t, c9, rfl, h1, h20, h2⟩ := h
    obtain ⟨t9, vs⟩ := c9
    have h20 : 20 ≤ t9 := h20
    have hty : ∃ ty, q_aty t9 = some ty := by
      rcases (hR.2.2 a _ h1).2 with ⟨q, k1, -⟩ | ⟨ty, cell, k1, -⟩ | ⟨k1, -⟩
      · have k3 := (List.getElem?_eq_some_iff.mp k1).1
        simp [q_ct] at k3
        omega
      · exact ⟨ty, k1⟩
      · have k3 : t9 = 13 := congrArg Prod.fst k1
        omega
    obtain ⟨ty, hty⟩ := hty
    obtain ⟨cell, k1, k2, k3, k4, k5, k6⟩ := (hR.2.2 a _ h1).2.arr hty
    exact W.alen hx hb k2 (hKn.arr hty k1 k3 k5) (by rw [k6, List.size_toArray, List.length_map]) rfl rfl hd (go _ _ _ _ hln h2 hl)
  | _ => first | exact False.elim h | cases hno
end
