/-! THE CLAIM OUT OF ONE WALK OF THE LAW'S BODY. Your part is whole_start (and what it stands on); all else here is the same for every law, but numbers. -/
def R_law : String := "ReedSheetsLaw"
def lw_P (b : Addr) (xs : List Int32) (args : Array Value) (s : State) : Prop := args = #[.ref b] ∧ s.IntsAt b xs ∧ xs.length ≤ 3584 ∧ (Jvm.Cond.and given_1 narrow_1).before args s = true
def lw_Q (_ : Array Value) (s : State) (o : Outcome) (t : State) : Prop := o = .returned (some (.int 1)) ∧ Framed s o t [] 601024 7293034
def lw_Z (below : List Frame) (a : Array Value) (s : State) : State → Prop := fun t => ∃ o, t.status = .running ∧ Ended t below o ∧ lw_Q a s o t
/-- the law's own end, with 1 on the stack, nothing written that was there before, its room as the claim has it -/
theorem lw_ret {p : Program} {l : Launch} {e : Env} {s : State} {m : MethodId} {below : List Frame} {meth : Method} {c : Code} {b : Nat} (hx : p.tables.exec = Jvm.exec) (hb : c.code = code) (hr : meth.sig.returnType = ret) (hlocks : meth.locks = false) {pc : Nat} {H : Heap} {ls : Array Slot} (hdg : decode code pc = .ok (.ireturn, 1)) : W p l e room_1 s m #[Value.ref b] below meth c H [] 601024 7293034 (lw_Z below #[Value.ref b] s) (F0 m pc ls [.int 1]) := by
  intro T hT X
  obtain ⟨fs, hret, hrun, hended, hW, hframe⟩ := X.leave (v := some (.int 1)) (hlocks := hlocks) (fun h => by rw [hr] at h; cases h)
  have hmeth' : T.vm.method? m = some meth := X.method'
  refine ⟨T.setFrames fs, ?_, .returned (some (.int 1)), hrun, hended, rfl, ⟨_, rfl⟩, hW, hframe⟩
  jvm_step X.here [X.here.top, hx, hb, hdg, hmeth', hr, ret, narrow_b1]
  (try refine ⟨rfl, ?_⟩); (try refine ⟨rfl, ?_⟩)
  first | (intro acts; rw [hret _ acts rfl rfl rfl]) | rw [hret _ _ rfl rfl rfl]
  exact Steps.refl _
/-- what holds at the law's entry: the machine, the code, the tables' words (any of lw_tbl by 'hts w (by decide +kernel)'), the script of L ints xs at the cell b, what the Statement gives of the start (any of its parts by flat_of_before) -/
def lw_At (p : Program) (s : State) (m : MethodId) (meth : Method) (c : Code) (b L : Nat) (xs : Nat → Int32) : Prop :=
  p.tables.exec = Jvm.exec ∧ c.code = code ∧ meth.sig.returnType = ret ∧ c.maxLocals = 7 ∧ s.vm.findClass R_law = some m.cls ∧ (∀ w ∈ lw_tbl, w.before #[Value.ref b] s = true) ∧ va_X b L xs s s.heap ∧ b < s.heap.size ∧ meth.locks = false ∧ (Jvm.Cond.and given_1 narrow_1).before #[Value.ref b] s = true
theorem e_tbl {w : Cond} (h : w ∈ q_tbl) : w ∈ lw_tbl := (List.mem_filter.mp h).1
/-- an array that the Statement tells of, with its size -/
theorem e_arr {args : Array Value} {s : State} {tm : Term} {ty : FieldType} {N : Nat} {f : Nat → Value} (hN : N < 2147483648) (harr : (Cond.arrayOf tm ty).before args s = true) (hlen : (Cond.eq (.length tm) (.int (Int32.ofNat N))).before args s = true) (hel : ∀ j : Nat, j < N → (Term.elem tm (.int (Int32.ofNat j))).eval args s none [] s = some (f j)) : ∃ (t : Nat) (cell : Cell), tm.eval args s none [] s = some (.ref t) ∧ s.heap[t]? = some cell ∧ s.isArrayOf cell ty ∧ cell.vm ≠ .unknown ∧ cell.slots = ((List.range N).map f).toArray := by
  obtain ⟨t, ht, cell, hc, hof, hkn, hle, hsz, hj, -⟩ := va_Tof (A := fun q => s.heap.size ≤ q) hN harr (va_eqt hlen) hel (fun a h => Nat.not_le.mpr h)
  have hv := va_eqt hlen
  obtain ⟨a, cell', ha, hat, -⟩ := Term.length_spec hv
  cases ht.symm.trans ha
  obtain ⟨hc', -, -, -⟩ := State.arrayAt?_spec hat
  cases hc.symm.trans hc'
  have hlt : cell.slots.size < 2147483648 := by
    simp only [Term.eval, ht, hat, Option.bind_eq_bind, Option.bind_some] at hv
    by_cases hlt : cell.slots.size < 2147483648
    · exact hlt
    · simp [hlt] at hv
  have hsize : cell.slots.size = N := by
    have e : z_n cell.slots.size = z_n N := hsz
    have := congrArg Int32.toNatClampNeg e
    rw [z_n_nat hlt, z_n_nat hN] at this
    exact this
  refine ⟨t, cell, ht, hc, hof, hkn, Array.ext_getElem? fun i => ?_⟩
  have e : ((List.range N).map f).toArray[i]? = ((List.range N).map f)[i]? := by rw [List.getElem?_toArray]
  rw [e, List.getElem?_map]
  by_cases hi : i < N
  · rw [hj i hi, List.getElem?_range hi]; rfl
  · rw [Array.getElem?_eq_none (by omega), List.getElem?_eq_none (by rw [List.length_range]; omega)]; rfl
theorem e_iv_r (bs : List Nat) : ((List.range bs.length).map fun j => (.int (z_n (bs.getD j 0)) : Value)) = e_iv bs := by
  refine List.ext_getElem? fun i => ?_
  unfold e_iv
  rw [List.getElem?_map, List.getElem?_map]
  by_cases hi : i < bs.length
  · rw [List.getElem?_range hi, List.getElem?_eq_getElem hi]
    show some (Value.int (z_n (bs.getD i 0))) = some (Value.int (z_n bs[i]))
    rw [List.getD_eq_getElem?_getD, List.getElem?_eq_getElem hi]; rfl
  · rw [List.getElem?_eq_none (by rw [List.length_range]; omega), List.getElem?_eq_none (by omega)]; rfl
/-- a text of the class file -/
theorem e_str {args : Array Value} {s : State} {tm : Term} {bs : List Nat} (hN : bs.length < 2147483648) (hex : (Cond.exactly tm "java/lang/String").before args s = true) (hco : (Cond.eq (.field tm "java/lang/String" "coder" "B") (.int 0)).before args s = true)
    (har : (Cond.arrayOf (.field tm "java/lang/String" "value" "[B") .byte).before args s = true) (hle : (Cond.eq (.length (.field tm "java/lang/String" "value" "[B")) (.int (Int32.ofNat bs.length))).before args s = true)
    (hel : ∀ j : Nat, j < bs.length → (Cond.eq (.elem (.field tm "java/lang/String" "value" "[B") (.int (Int32.ofNat j))) (.int (z_n (bs.getD j 0)))).before args s = true) :
    ∃ (a t : Nat) (ce cell : Cell), tm.eval args s none [] s = some (.ref a) ∧ va_OF "java/lang/String" "value" "[B" (.ref t) a (q_A s.heap.size) s s.heap ∧ va_OF "java/lang/String" "coder" "B" (.int 0) a (q_A s.heap.size) s s.heap ∧ (s.heap[a]? = some ce ∧ ce.vm.isStatics = false ∧ s.vm.findClass "java/lang/String" = some ce.cls) ∧ s.heap[t]? = some cell ∧ s.isArrayOf cell .byte ∧ cell.vm ≠ .unknown ∧ cell.slots = (e_iv bs).toArray := by
  have hA : ∀ a : Nat, a < s.heap.size → ¬ q_A s.heap.size a := fun a h => Nat.not_le.mpr h
  obtain ⟨a, c, cA, kA, q1, q2, q3, q4, q5, q6, -⟩ := Cond.exactly_spec (args := args) (first := s) (o := none) (s := s) (idx := []) (t := tm) (cls := "java/lang/String") hex
  obtain ⟨t, cell, ht, hc, hof, hkn, hsl⟩ := e_arr (f := fun j => .int (z_n (bs.getD j 0))) hN har hle (fun j hj => va_eqt (hel j hj))
  exact ⟨a, t, cA, cell, q1, vk_OFof q1 ht hA, vk_OFof q1 (va_eqt hco) hA, ⟨q3, q5, by rw [q6]; exact q2⟩, hc, hof, hkn, by rw [hsl, e_iv_r]⟩
theorem e_cls {args : Array Value} {s : State} (ht : ∀ w ∈ lw_tbl, w.before args s = true) {t : Nat} {ty : FieldType} (h : q_aty t = some ty) : ∃ c, q_AO s c ty ∧ va_RA s c ty := by
  have arr : ∀ ty : FieldType, (Cond.arrayClass ty).before args s = true → ∃ c, q_AO s c ty ∧ s.vm.findClass ("[" ++ ty.toString) = some c := fun ty hw => by
    obtain ⟨c, k, comp, f1, f2, f3⟩ := Cond.arrayClass_spec hw
    exact ⟨c, ⟨k, comp, f2, f3⟩, f1⟩
  have obj : ∀ C : String, (Cond.arrayOver (.object C)).before args s = true → ∃ c, q_AO s c (.object C) ∧ va_RA s c (.object C) := fun C hw => by
    obtain ⟨comp, c, k, h1, h2, h3, h4, h5⟩ := Cond.arrayOver_spec hw
    exact ⟨c, ⟨k, comp, h3, h4⟩, ⟨k, comp, h3, h4, h1, h5⟩⟩
  unfold q_aty at h
  split at h
  · cases h; exact arr _ (ht _ (e_tbl (q_w_in (i := 257) (by decide +kernel))))
  · cases h; exact arr _ (ht _ (e_tbl (q_w_in (i := 255) (by decide +kernel))))
  · cases h; exact arr _ (ht _ (e_tbl (q_w_in (i := 256) (by decide +kernel))))
  · cases h; exact arr _ (ht _ (e_tbl (q_w_in (i := 163) (by decide +kernel))))
  · cases h; exact arr _ (ht _ (e_tbl (q_w_in (i := 254) (by decide +kernel))))
  · cases h; exact obj _ (ht _ (by decide +kernel))
  · cases h; exact obj _ (ht _ (by decide +kernel))
  · cases h; exact obj _ (ht _ (by decide +kernel))
  · cases h
    obtain ⟨comp, c, k, h1, h2, h3, h4, h5⟩ := arrayOver_specB (ht (.arrayOver (.array .int)) (by decide +kernel))
    exact ⟨c, ⟨k, comp, h3, h4⟩, h5⟩
  · cases h
theorem e_aty {t : Nat} {ty : FieldType} (h : q_aty t = some ty) : 20 ≤ t := by
  unfold q_aty at h
  split at h <;> first | decide | cases h
theorem e_nw {args : Array Value} {s : State} {w : Cond} (hw : q_isnw w = true) (h : w.before args s = true) : va_Nw w s := by
  cases w <;> first | exact va_Nw.of rfl h | exact absurd hw (by simp [q_isnw])
def e_pre : List Cond := flatC (Jvm.Cond.and given_1 narrow_1)
def e_tm (k : Nat) : Term := .field (.string "ReedSheets" k) "java/lang/String" "value" "[B"
def e_tm3 : Term := .field (.string "ReedSheets$Tape" 44) "java/lang/String" "value" "[B"
set_option maxRecDepth 100000 in
theorem e_pi1 : ∀ j, j < 61 → e_pre[39 + j]? = some (Cond.eq (.elem (e_tm 16) (.int (Int32.ofNat j))) (.int (z_n (e_b1.getD j 0)))) := by decide +kernel
theorem e_p1 (j : Nat) (h : j < 61) : (Cond.eq (.elem (e_tm 16) (.int (Int32.ofNat j))) (.int (z_n (e_b1.getD j 0)))) ∈ e_pre := List.mem_of_getElem? (e_pi1 j h)
set_option maxRecDepth 100000 in
theorem e_pi2 : ∀ j, j < 97 → e_pre[104 + j]? = some (Cond.eq (.elem (e_tm 26) (.int (Int32.ofNat j))) (.int (z_n (e_b2.getD j 0)))) := by decide +kernel
theorem e_p2 (j : Nat) (h : j < 97) : (Cond.eq (.elem (e_tm 26) (.int (Int32.ofNat j))) (.int (z_n (e_b2.getD j 0)))) ∈ e_pre := List.mem_of_getElem? (e_pi2 j h)
set_option maxRecDepth 100000 in
theorem e_pi3 : ∀ j, j < 8 → e_pre[206 + j]? = some (Cond.eq (.elem e_tm3 (.int (Int32.ofNat j))) (.int (z_n (e_b3.getD j 0)))) := by decide +kernel
theorem e_p3 (j : Nat) (h : j < 8) : (Cond.eq (.elem e_tm3 (.int (Int32.ofNat j))) (.int (z_n (e_b3.getD j 0)))) ∈ e_pre := List.mem_of_getElem? (e_pi3 j h)
set_option maxRecDepth 100000 in
theorem e_pi4 : ∀ j, j < 8 → e_pre[12 + j]? = some (Cond.eq (.elem (.static "ReedSheets$SheetReader" "TAG_BITS" "[I") (.int (Int32.ofNat j))) (.int (z_n (k_tb.getD j 0)))) := by decide +kernel
theorem e_p4 (j : Nat) (h : j < 8) : (Cond.eq (.elem (.static "ReedSheets$SheetReader" "TAG_BITS" "[I") (.int (Int32.ofNat j))) (.int (z_n (k_tb.getD j 0)))) ∈ e_pre := List.mem_of_getElem? (e_pi4 j h)
/-- where the small addresses lie -/
def e_mu (b t1 a2 a3 a4 t5 t6 t7 tf B : Nat) (a : Nat) : Nat := if a = 0 then b else if a = 1 then t1 else if a = 2 then a2 else if a = 3 then a3 else if a = 4 then a4 else if a = 5 then t5 else if a = 6 then t6 else if a = 7 then t7 else if a = q_U then tf else B + (a - 8)
theorem e_mu_8 {b t1 a2 a3 a4 t5 t6 t7 tf B a : Nat} (h : 8 ≤ a) (hu : a < q_U) : e_mu b t1 a2 a3 a4 t5 t6 t7 tf B a = B + (a - 8) := by
  unfold e_mu
  rw [if_neg (by omega), if_neg (by omega), if_neg (by omega), if_neg (by omega), if_neg (by omega), if_neg (by omega), if_neg (by omega), if_neg (by omega), if_neg (by omega)]
theorem e_mu_U {b t1 a2 a3 a4 t5 t6 t7 tf B : Nat} : e_mu b t1 a2 a3 a4 t5 t6 t7 tf B q_U = tf := by
  unfold e_mu
  rw [if_neg (by decide), if_neg (by decide), if_neg (by decide), if_neg (by decide), if_neg (by decide), if_neg (by decide), if_neg (by decide), if_neg (by decide), if_pos rfl]
theorem e_qv_iv (μ : Nat → Nat) (bs : List Nat) : (e_iv bs).map (q_v μ) = e_iv bs := by
  unfold e_iv
  rw [List.map_map]; rfl
theorem e_AO {s : State} {cell : Cell} {ty : FieldType} (h : s.isArrayOf cell ty) : q_AO s cell.cls ty := by
  obtain ⟨-, k, h1, comp, h2⟩ := h
  exact ⟨k, comp, h1, h2⟩
theorem e_st_8 {a : Nat} (h : 8 ≤ a) : e_st a = none := by
  unfold e_st
  rw [if_neg (by omega), if_neg (by omega), if_neg (by omega), if_neg (by omega), if_neg (by omega), if_neg (by omega), if_neg (by omega)]
theorem e_slots {arr : Array Value} {L : Nat} {xs : Nat → Int32} {μ : Nat → Nat} (h : arr.size = L) (hj : ∀ j : Nat, j < L → arr[j]? = some (.int (xs j))) : arr = (((List.range L).map fun i => (.int (xs i) : Value)).map (q_v μ)).toArray := by
  refine Array.ext_getElem? fun i => ?_
  have e : (((List.range L).map fun i => (.int (xs i) : Value)).map (q_v μ)).toArray[i]? = (((List.range L).map fun i => (.int (xs i) : Value)).map (q_v μ))[i]? := by rw [List.getElem?_toArray]
  rw [e, List.getElem?_map, List.getElem?_map]
  by_cases hi : i < L
  · rw [hj i hi, List.getElem?_range hi]; rfl
  · rw [Array.getElem?_eq_none (by omega), List.getElem?_eq_none (by rw [List.length_range]; omega)]; rfl
set_option maxRecDepth 100000 in
set_option maxHeartbeats 4000000 in
/-- from the entry, for every script of at most 3584 ints, the law comes to its end with true -/
theorem whole_start {p : Program} {e : Env} {s : State} {m : MethodId} {below : List Frame} {meth : Method} {c : Code} (l : Launch) (hflags : l.flags = flags0) {b L : Nat} {xs : Nat → Int32} (hL : L ≤ 3584) (C0 : lw_At p s m meth c b L xs) : W p l e room_1 s m #[Value.ref b] below meth c s.heap [] 0 0 (lw_Z below #[Value.ref b] s) (entryFrame m ([Value.ref b] : List Value).toArray 7) := by
  obtain ⟨hx, hb, hr, hml, hown, hts, hX, hbl, hlocks, hgv⟩ := id C0
  have hs : ∀ w ∈ e_pre, w.before #[Value.ref b] s = true := flat_of_before _ hgv
  have ht : ∀ w ∈ q_tbl, w.before #[Value.ref b] s = true := fun w hw => hts w (e_tbl hw)
  have hA : ∀ a : Nat, a < s.heap.size → ¬ q_A s.heap.size a := fun a h => Nat.not_le.mpr h
  have lt : ∀ {a : Nat} {c : Cell}, s.heap[a]? = some c → a < s.heap.size := fun h => (Array.getElem?_eq_some_iff.mp h).1
  obtain ⟨a2, t5, k2, c5, u1, u2, u3, u4, u5, u6, u7, u8⟩ := e_str (tm := .string "ReedSheets" 16) (bs := e_b1) (args := #[Value.ref b]) (s := s) (by decide) (hs _ (by decide +kernel)) (hs _ (by decide +kernel)) (hs _ (by decide +kernel)) (hs _ (by decide +kernel)) (fun j hj => hs _ (e_p1 j hj))
  obtain ⟨a3, t6, k3, c6, v1, v2, v3, v4, v5, v6, v7, v8⟩ := e_str (tm := .string "ReedSheets" 26) (bs := e_b2) (args := #[Value.ref b]) (s := s) (by decide) (hs _ (by decide +kernel)) (hs _ (by decide +kernel)) (hs _ (by decide +kernel)) (hs _ (by decide +kernel)) (fun j hj => hs _ (e_p2 j hj))
  obtain ⟨a4, t7, k4, c7, w1, w2, w3, w4, w5, w6, w7, w8⟩ := e_str (tm := .string "ReedSheets$Tape" 44) (bs := e_b3) (args := #[Value.ref b]) (s := s) (by decide) (hs _ (by decide +kernel)) (hs _ (by decide +kernel)) (hs _ (by decide +kernel)) (hs _ (by decide +kernel)) (fun j hj => hs _ (e_p3 j hj))
  obtain ⟨t1, c1, y1, y2, y3, y4, y5⟩ := e_arr (args := #[Value.ref b]) (s := s) (tm := .static "ReedSheets$SheetReader" "TAG_BITS" "[I") (ty := .int) (N := 8) (f := fun j => .int (z_n (k_tb.getD j 0))) (by decide) (hs _ (by decide +kernel)) (hs _ (by decide +kernel)) (fun j hj => va_eqt (hs _ (e_p4 j hj)))
  obtain ⟨scr, x1, x2, x3, x4, x5⟩ := hX
  have hzq : va_Zq "jdk/internal/util/Preconditions" "SIOOBE_FORMATTER" "Ljava/util/function/BiFunction;" (q_A s.heap.size) s s.heap := va_Zqof (hts _ (by decide +kernel)) (hts _ (by decide +kernel)) (hs _ (by decide +kernel)) hA
  obtain ⟨fo, tf, hfm⟩ : ∃ (fo : Option Nat) (tf : Nat), ∀ μ : Nat → Nat, μ q_U = tf → va_Z "jdk/internal/util/Preconditions" "SIOOBE_FORMATTER" "Ljava/util/function/BiFunction;" (q_v μ (q_rf fo)) (q_A s.heap.size) s s.heap := by
    rcases hzq with h | ⟨t, h⟩
    · exact ⟨none, 0, fun _ _ => h⟩
    · exact ⟨some q_U, t, fun μ hμ => by
        show va_Z _ _ _ (.ref (μ q_U)) _ _ _
        rw [hμ]; exact h⟩
  have hcl : ∀ t : Nat, ∃ ci : ClassId × (Nat → Nat), (∀ q, q_ct[t]? = some q → u_Kn s q.1 q.2.1 q.2.2 ci.1 ci.2) ∧ (∀ ty, q_aty t = some ty → q_AO s ci.1 ty ∧ va_RA s ci.1 ty) := by
    intro t
    cases hq : q_ct[t]? with
    | some q =>
      obtain ⟨f1, -, -, f4, -⟩ := q_ct_facts hq
      obtain ⟨c, i, hk⟩ := u_known ht f1 (ht _ f4)
      refine ⟨(c, i), fun q' h => ?_, fun ty h => ?_⟩
      · cases h; exact hk
      · have h1 := e_aty h
        have h2 := (List.getElem?_eq_some_iff.mp hq).1
        rw [show q_ct.length = 13 from rfl] at h2; omega
    | none =>
      cases ha : q_aty t with
      | none => exact ⟨(m.cls, fun _ => 0), fun q' h => (by cases h), fun ty h => (by cases h)⟩
      | some ty =>
        obtain ⟨c, hc⟩ := e_cls hts ha
        exact ⟨(c, fun _ => 0), fun q' h => (by cases h), fun ty' h => (by cases h; exact hc)⟩
  obtain ⟨ci, hci⟩ := Classical.axiomOfChoice hcl
  obtain ⟨cls, hcls⟩ : ∃ cls : Nat → ClassId, ∀ t, cls t = (ci t).1 := ⟨_, fun _ => rfl⟩
  obtain ⟨iS, hiS⟩ : ∃ iS : Nat → Nat → Nat, ∀ t, iS t = (ci t).2 := ⟨_, fun _ => rfl⟩
  obtain ⟨X, X0, X1, X5, X6, X7⟩ : ∃ X : Nat → ClassId, X 0 = scr.cls ∧ X 1 = c1.cls ∧ X 5 = c5.cls ∧ X 6 = c6.cls ∧ X 7 = c7.cls := ⟨fun a => if a = 0 then scr.cls else if a = 1 then c1.cls else if a = 5 then c5.cls else if a = 6 then c6.cls else c7.cls, rfl, rfl, rfl, rfl, rfl⟩
  obtain ⟨μ, m0, m1, m2, m3, m4, m5, m6, m7, mU, m8⟩ : ∃ μ : Nat → Nat, μ 0 = b ∧ μ 1 = t1 ∧ μ 2 = a2 ∧ μ 3 = a3 ∧ μ 4 = a4 ∧ μ 5 = t5 ∧ μ 6 = t6 ∧ μ 7 = t7 ∧ μ q_U = tf ∧ ∀ a, 8 ≤ a → a < q_U → μ a = s.heap.size + (a - 8) := ⟨e_mu b t1 a2 a3 a4 t5 t6 t7 tf s.heap.size, rfl, rfl, rfl, rfl, rfl, rfl, rfl, rfl, e_mu_U, fun a h1 h2 => e_mu_8 h1 h2⟩
  have hM : q_Mu μ s.heap.size := by
    refine ⟨m8, fun a ha => ?_⟩
    have h9 : a = 0 ∨ a = 1 ∨ a = 2 ∨ a = 3 ∨ a = 4 ∨ a = 5 ∨ a = 6 ∨ a = 7 := by omega
    rcases h9 with rfl | rfl | rfl | rfl | rfl | rfl | rfl | rfl
    · rw [m0]; exact hbl
    · rw [m1]; exact lt y2
    · rw [m2]; exact lt u4.1
    · rw [m3]; exact lt v4.1
    · rw [m4]; exact lt w4.1
    · rw [m5]; exact lt u5
    · rw [m6]; exact lt v5
    · rw [m7]; exact lt w5
  have hKn : q_Kn cls iS X s := by
    refine ⟨fun t q h => by rw [hcls, hiS]; exact (hci t).1 q h, fun t ty h => by rw [hcls]; exact (hci t).2 ty h, fun a ty ha h => ?_⟩
    have h9 : a = 0 ∨ a = 1 ∨ a = 2 ∨ a = 3 ∨ a = 4 ∨ a = 5 ∨ a = 6 ∨ a = 7 := by omega
    rcases h9 with rfl | rfl | rfl | rfl | rfl | rfl | rfl | rfl
    · cases (show some FieldType.int = some ty from h); rw [X0]; exact e_AO x2
    · cases (show some FieldType.int = some ty from h); rw [X1]; exact e_AO y3
    · cases (show (none : Option FieldType) = some ty from h)
    · cases (show (none : Option FieldType) = some ty from h)
    · cases (show (none : Option FieldType) = some ty from h)
    · cases (show some FieldType.byte = some ty from h); rw [X5]; exact e_AO u6
    · cases (show some FieldType.byte = some ty from h); rw [X6]; exact e_AO v6
    · cases (show some FieldType.byte = some ty from h); rw [X7]; exact e_AO w6
  have hR : q_Rep μ cls iS X (q_pt (e_g0 (w_sc L xs)) e_s0) s.heap := by
    refine ⟨⟨Nat.le_refl _, show 8 < q_U by decide⟩, ?_, fun a c hc => ?_⟩
    · show s.heap.size = μ 8
      rw [m8 8 (Nat.le_refl _) (by decide)]; rfl
    have hc : (match e_st a with | some x => some x | none => if a = 0 then some (w_sc L xs) else none) = some c := hc
    have h9 : a = 0 ∨ a = 1 ∨ a = 2 ∨ a = 3 ∨ a = 4 ∨ a = 5 ∨ a = 6 ∨ a = 7 ∨ 8 ≤ a := by omega
    rcases h9 with rfl | rfl | rfl | rfl | rfl | rfl | rfl | rfl | h8
    · cases (show some (w_sc L xs) = some c from hc)
      exact ⟨show 0 < 8 by decide, Or.inr (Or.inl ⟨.int, scr, rfl, fun _ => rfl, by rw [m0]; exact x1, by rw [if_pos (by decide)]; exact X0.symm, x3, x2.1, e_slots x4 x5⟩)⟩
    · cases (show some (20, e_iv k_tb) = some c from hc)
      exact ⟨show 1 < 8 by decide, Or.inr (Or.inl ⟨.int, c1, rfl, fun _ => rfl, by rw [m1]; exact y2, by rw [if_pos (by decide)]; exact X1.symm, y4, y3.1, by
        show c1.slots = ((e_iv k_tb).map (q_v μ)).toArray
        rw [e_qv_iv, ← e_iv_r]; exact y5⟩)⟩
    · cases (show some (13, [Value.ref 5, .int 0]) = some c from hc)
      exact ⟨show 2 < 8 by decide, Or.inr (Or.inr ⟨rfl, by decide, by decide⟩)⟩
    · cases (show some (13, [Value.ref 6, .int 0]) = some c from hc)
      exact ⟨show 3 < 8 by decide, Or.inr (Or.inr ⟨rfl, by decide, by decide⟩)⟩
    · cases (show some (13, [Value.ref 7, .int 0]) = some c from hc)
      exact ⟨show 4 < 8 by decide, Or.inr (Or.inr ⟨rfl, by decide, by decide⟩)⟩
    · cases (show some (24, e_iv e_b1) = some c from hc)
      exact ⟨show 5 < 8 by decide, Or.inr (Or.inl ⟨.byte, c5, rfl, fun _ => rfl, by rw [m5]; exact u5, by rw [if_pos (by decide)]; exact X5.symm, u7, u6.1, by
        show c5.slots = ((e_iv e_b1).map (q_v μ)).toArray
        rw [e_qv_iv]; exact u8⟩)⟩
    · cases (show some (24, e_iv e_b2) = some c from hc)
      exact ⟨show 6 < 8 by decide, Or.inr (Or.inl ⟨.byte, c6, rfl, fun _ => rfl, by rw [m6]; exact v5, by rw [if_pos (by decide)]; exact X6.symm, v7, v6.1, by
        show c6.slots = ((e_iv e_b2).map (q_v μ)).toArray
        rw [e_qv_iv]; exact v8⟩)⟩
    · cases (show some (24, e_iv e_b3) = some c from hc)
      exact ⟨show 7 < 8 by decide, Or.inr (Or.inl ⟨.byte, c7, rfl, fun _ => rfl, by rw [m7]; exact w5, by rw [if_pos (by decide)]; exact X7.symm, w7, w6.1, by
        show c7.slots = ((e_iv e_b3).map (q_v μ)).toArray
        rw [e_qv_iv]; exact w8⟩)⟩
    · rw [e_st_8 h8] at hc
      have hc : (if a = 0 then some (w_sc L xs) else none) = some c := hc
      rw [if_neg (by omega)] at hc; cases hc
  have s2 : q_str μ s.heap.size s s.heap 2 := by
    unfold q_str
    rw [show μ (2 + 3) = t5 from m5, m2]; exact ⟨u2, u3, hA _ (lt u4.1), k2, u4⟩
  have s3 : q_str μ s.heap.size s s.heap 3 := by
    unfold q_str
    rw [show μ (3 + 3) = t6 from m6, m3]; exact ⟨v2, v3, hA _ (lt v4.1), k3, v4⟩
  have s4 : q_str μ s.heap.size s s.heap 4 := by
    unfold q_str
    rw [show μ (4 + 3) = t7 from m7, m4]; exact ⟨w2, w3, hA _ (lt w4.1), k4, w4⟩
  have hXx : q_X μ s.heap.size (q_rf fo) s s.heap := by
    refine ⟨va_Zof (hts _ (by decide +kernel)) (hts _ (by decide +kernel)) (va_eqi (hs _ (by decide +kernel))) hA, ?_, hfm μ mU, ⟨s2, s3, s4⟩, ⟨?_, ?_, ?_⟩, ⟨vx_Zqof (hts _ (by decide +kernel)) (hts _ (by decide +kernel)) (hs _ (by decide +kernel)) hA, vx_Zqof (hts _ (by decide +kernel)) (hts _ (by decide +kernel)) (hs _ (by decide +kernel)) hA⟩, ⟨va_AO.of (hts _ (by decide +kernel)), va_AO.of (hts _ (by decide +kernel)), va_AO.of (hts _ (by decide +kernel)), hts (.arrayOver (.array .int)) (by decide +kernel)⟩, fun w hw => ?_⟩
    · rw [m1]; exact va_Zof (hts _ (by decide +kernel)) (hts _ (by decide +kernel)) y1 hA
    · rw [m2]; exact vk_R.of (hts _ (by decide +kernel)) u1
    · rw [m3]; exact vk_R.of (hts _ (by decide +kernel)) v1
    · rw [m4]; exact vk_R.of (hts _ (by decide +kernel)) w1
    · obtain ⟨h1, h2⟩ := List.mem_filter.mp hw
      exact e_nw h2 (hts w (List.mem_append.mpr (Or.inr h1)))
  obtain ⟨σ', hF, n0, hrun⟩ := e_start (fo := fo) (d := 70) (Nat.le_refl _) (L := L) (xs := xs) hL
  have hC : q_Ctx μ cls iS X s.heap.size (q_rf fo) p s m #[Value.ref b] meth c m_Lw_law := ⟨hx, hb, hml, hown, ht, hM, hKn, hXx, fun h => absurd h (by decide), fun h => absurd rfl h⟩
  have hsr : l.stackTraces = false := by
    unfold Launch.stackTraces
    rw [hflags]; decide +kernel
  have e0 : ([Value.ref b] : List Value) = [Value.ref 0].map (q_v μ) := by
    show _ = [Value.ref (μ 0)]
    rw [m0]
  have hl := q_entry (μ := μ) [.ref 0] (n := 7) (by decide)
  rw [← e0] at hl
  have hF1 := hF.1
  have hF2 := hF.2
  have hF3 := Nat.le_of_ble_eq_true e_f1.2.2.2.1
  rw [lg_entry_eq]
  refine q_walk (σ0 := q_pt (e_g0 (w_sc L xs)) e_s0) (σ' := σ') (d := 70) (o := .inl (some (.int 1))) hC q_good q_lw_hh q_lw_ok (by unfold q_U; omega) (by show σ'.2.1 - 8 ≤ 601024; omega) (by show σ'.2.2 - 0 ≤ 7293034; omega) (by show 70 + 1 ≤ 2048; omega) (by show 64 * (70 + 1) ≤ 84000; omega) (fun _ _ _ _ _ hk => q_Rel_mono hk) (fun z9 as9 σ9 w9 σ19 M9 hk hm hu => q_sound q_good hM hsr 70 z9 as9 σ9 w9 σ19 M9 hk hm hu) ?_ ?_ n0 0 (q_in 7 [.ref 0]) [] (q_pt (e_g0 (w_sc L xs)) e_s0) s.heap [] 0 0 _ rfl hrun hR va_S.rf (Nat.sub_self _).symm (Nat.sub_self _).symm (q_lt.rf _) hl
  · intro v H1 locs1 L1 pc1 i9 ho r1 r2 hd hrt
    cases ho
    rcases hrt with ⟨rfl, x, hv, hr2⟩ | ⟨rfl, x, hv, hr2⟩ | ⟨rfl, w, hv, hw, hr2⟩ | ⟨rfl, hv, hr2⟩
    · refine va_forget (fun q hq => r2.2.2 q hq) ?_
      refine W.widen (k := 601024) (n := 7293034) (by show σ'.2.1 - 8 ≤ 601024; omega) (by show σ'.2.2 - 0 ≤ 7293034; omega) ?_
      exact lw_ret hx hb hr hlocks hd
    · cases hv
    · cases hv
      rcases hw with h | ⟨a, h⟩ <;> cases h
    · cases hv
  · intro H1 locs1 L1 pc1 st1 σ1 r1 r2 r3 ho
    obtain ⟨q, hq⟩ := ho
    cases hq
