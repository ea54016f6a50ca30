/-! Contracts of methods by the small machine, and calls by them. -/
def q_room (d mc ms : Nat) : Room := { frames := d, cells := mc, slots := ms, locals := 64 * d }
def q_cw (M : q_M) : Cond := if M.2.2.2.2.1 = [] then .code M.1 M.2.1 M.2.2.1 M.2.2.2.1 else .codeWith M.1 M.2.1 M.2.2.1 M.2.2.2.1 M.2.2.2.2.1
section
variable (μ : Nat → Nat) (cls : Nat → ClassId) (iS : Nat → Nat → Nat) (X : Nat → ClassId) (B : Nat) (fm : Value)
def q_Pc (as : List Value) (σ : q_H) : Array Value → State → Prop := fun v U => v = (as.map (q_v μ)).toArray ∧ q_Rep μ cls iS X σ U.heap ∧ q_Kn cls iS X U ∧ q_X μ B fm U U.heap
def q_Qc (o : q_O) (σ' : q_H) : Array Value → State → Outcome → State → Prop := fun _ st oc t => (∃ v, o = .inl v ∧ oc = .returned (v.map (q_v μ))) ∧ q_Rep μ cls iS X σ' t.heap ∧ va_F (q_A B) st t
def q_XC (o : q_O) (σ' : q_H) : String → State → State → Prop := fun E st t => E = "java/util/NoSuchElementException" ∧ (∃ q, o = .inr q) ∧ q_Rep μ cls iS X σ' t.heap ∧ va_F (q_A B) st t
def q_Snd (l : Launch) (d : Nat) (M : q_M) (as : List Value) (σ : q_H) (o : q_O) (σ' : q_H) : Prop := q_lt σ σ' ∧
  vx_Met l M.1 (q_cw M :: q_tbl) (q_room d (σ'.2.1 - σ.2.1) (σ'.2.2 - σ.2.2)) (q_Pc μ cls iS X B fm as σ) (q_Qc μ cls iS X B o σ') (q_XC μ cls iS X B o σ') (σ'.2.1 - σ.2.1) (σ'.2.2 - σ.2.2) (q_A B)
end
section
variable {μ : Nat → Nat} {cls : Nat → ClassId} {iS : Nat → Nat → Nat} {X : Nat → ClassId} {B : Nat} {fm : Value}
theorem q_Pc_blind (as : List Value) (σ : q_H) : FrameBlind (q_Pc μ cls iS X B fm as σ) := by
  intro a U g mk h
  obtain ⟨h1, h2, h3, h4⟩ := h
  refine ⟨h1, h2, q_Kn.moved (u := U) (U := U.calling g mk a) (Vm.Alike.refl U.vm) h3, ?_⟩
  exact q_X.go (s := U) (U := U.calling g mk a) (State.WarmedH.refl U) h4 (fun _ _ _ => rfl)
section Q1
variable {p : Program} {l : Launch} {e : Env} {R : Room} {s : State} {m : MethodId} {args : Array Value} {below : List Frame} {meth : Method} {c : Code} {H : Heap} {locs : List Loc} {cells slots : Nat} {Q : State → Prop} {cc : ByteArray} {pc : Nat} {L : Array Slot} {own : String}
theorem q_after {w : q_O} {σ1 : q_H} {mc ms : Nat} {st0 rest : List Value} {a9 : Array Value} (hr : vx_Run p l e R s m args below meth c H locs cells slots mc ms (F0 m pc L st0) rest (q_Qc μ cls iS X B w σ1 a9) (q_XC μ cls iS X B w σ1) (q_A B)) (hS : va_S (q_A B) s.heap H locs)
    (kr : ∀ (v : Option Value) (H1 : Heap) (locs1 : List Loc), w = .inl v → q_Rep μ cls iS X σ1 H1 → va_S (q_A B) s.heap H1 locs1 → W p l e R s m args below meth c H1 locs1 (cells + mc) (slots + ms) Q (F0 m (pc + 3) L ((v.map (q_v μ)).toList ++ rest)))
    (kx : ∀ (q : Nat) (H1 : Heap) (locs1 : List Loc) (q9 : Addr) (ce : Cell), w = .inr q → q_Rep μ cls iS X σ1 H1 → va_S (q_A B) s.heap H1 locs1 → H1[q9]? = some ce → ce.vm = .none → s.vm.findClass "java/util/NoSuchElementException" = some ce.cls → vx_W p l e R s m args below meth c H1 locs1 (cells + mc) (slots + ms) Q (F0 m pc L rest) q9) :
    W p l e R s m args below meth c H locs cells slots Q (F0 m pc L st0) := by
  intro T hT X0
  rcases hr T hT X0 with ⟨v, st₀, t, T', L1, h0, X', hL, e1, e2, hq, hg⟩ | ⟨q, st₀, t, T', L1, E, ce, h0, X', hL, e1, e2, hx, hce, hvm, hcl, hst⟩
  · obtain ⟨⟨v', hw, hv⟩, hR, hF⟩ := hq
    cases hv
    obtain ⟨-, -, k3⟩ := vx_keep (A1 := q_A B) h0 e1 hS (fun _ _ h => h) (fun _ h => h) hL hF
    obtain ⟨t2, a1, b1⟩ := kr v' T'.heap (locs ++ L1) hw (by rw [e1]; exact hR) k3 T' rfl X'
    exact ⟨t2, hg t2 a1, b1⟩
  · obtain ⟨hE, ⟨q0, hw⟩, hR, hF⟩ := hx
    subst hE
    obtain ⟨-, -, k3⟩ := vx_keep (A1 := q_A B) h0 e1 hS (fun _ _ h => h) (fun _ h => h) hL hF
    obtain ⟨t2, a1, b1⟩ := kx q0 T'.heap (locs ++ L1) q ce hw (by rw [e1]; exact hR) k3 (by rw [e1]; exact hce) hvm hcl T' rfl X'
    exact ⟨t2, hst.trans a1, b1⟩
theorem q_ws_ok {M : q_M} (hts : ∀ w ∈ q_tbl, w.before args s = true) (hc : q_cw M ∈ q_tbl) : ∀ w ∈ q_cw M :: q_tbl, ∀ (a' : Array Value) (U : State), s.WarmedH U.vm → w.before a' U = true := by
  intro w hw a' U hW
  have h1 : w ∈ q_tbl := by
    rcases List.mem_cons.mp hw with rfl | h
    · exact hc
    · exact h
  exact word_at hW (good_of_word (List.mem_filter.mp h1).2) (hts w h1)
theorem q_np_ok {y : MethodName} {n : Nat} (h : q_np y n = true) : (y.cls ≠ "java/lang/invoke/MethodHandle" ∧ y.cls ≠ "java/lang/invoke/VarHandle") ∧ ∀ sig, parseMethodDescriptor y.desc = some sig → n = sig.parameters.length := by
  unfold q_np at h
  simp only [Bool.and_eq_true, decide_eq_true_eq] at h
  refine ⟨⟨h.1.2, h.2⟩, fun sig hs => ?_⟩
  have h1 := h.1.1
  rw [hs] at h1
  exact (Option.some.inj h1).symm
theorem q_mchk_ok {z : Nat} {M : q_M} {ps : List Nat} (h : q_mchk z M ps = true) : q_yn[z]? = some M.1 ∧ plainName M.1.cls = true ∧ M.2.2.1 ≤ 40 ∧ q_cw M ∈ q_tbl ∧ Cond.initialized M.1.cls ∈ q_tbl ∧ (M.1.name = "<init>" → Cond.instanceMethod M.1 ∈ q_tbl ∧ M.2.2.2.1 = none ∧ M.2.2.2.2.1 = []) ∧ q_rsk M.1.cls M.1.name M.2.1 M.2.2.2.2.2 ps = true ∧ q_hchk M = true := by
  unfold q_mchk at h
  simp only [Bool.and_eq_true, decide_eq_true_eq] at h
  obtain ⟨⟨⟨⟨⟨h1, h2⟩, h3⟩, h4⟩, h5⟩, h9⟩ := h
  cases hp : q_pp[z]? with
  | none => rw [hp] at h4; cases h4
  | some w =>
    rw [hp] at h4
    simp only [Bool.and_eq_true] at h4
    obtain ⟨⟨h6, h7⟩, h8⟩ := h4
    refine ⟨h1, h2, h3, ?_, q_w_in h7, fun hn => ?_, h5, h9⟩
    · unfold q_cw
      split at h6
      · next hh => rw [if_pos hh]; exact q_w_in h6
      · next hh => rw [if_neg hh]; exact q_w_in h6
    · rw [if_pos hn] at h8
      simp only [Bool.and_eq_true, decide_eq_true_eq] at h8
      exact ⟨q_w_in h8.1.1, h8.1.2, h8.2⟩
/-- what every call has -/
theorem q_callB {d : Nat} {M : q_M} {idx n : Nat} {σ σ' : q_H} (hts : ∀ w ∈ q_tbl, w.before args s = true) (hc : q_cw M ∈ q_tbl) (hml : M.2.2.1 ≤ 40) (hf : d + 1 ≤ R.frames) (hlo : 64 * (d + 1) ≤ R.locals) :
    (q_room d (σ'.2.1 - σ.2.1) (σ'.2.2 - σ.2.2)).cells = σ'.2.1 - σ.2.1 ∧ (q_room d (σ'.2.1 - σ.2.1) (σ'.2.2 - σ.2.2)).slots = σ'.2.2 - σ.2.2 ∧ (q_room d (σ'.2.1 - σ.2.1) (σ'.2.2 - σ.2.2)).frames + 1 ≤ R.frames ∧ 8 + (M.2.2.1 + 11) + (q_room d (σ'.2.1 - σ.2.1) (σ'.2.2 - σ.2.2)).locals ≤ R.locals ∧ (∀ w ∈ q_cw M :: q_tbl, ∀ (a' : Array Value) (U : State), s.WarmedH U.vm → w.before a' U = true) :=
  ⟨rfl, rfl, hf, by show 8 + (M.2.2.1 + 11) + 64 * d ≤ R.locals; omega, q_ws_ok hts hc⟩
end Q1
end
