/-! What a run leaves: a place that holds nothing stays so; what the run doesn't look at may be anything. -/
def q_kp (σ σ' : q_H) : Prop := σ.2.1 ≤ σ'.2.1 ∧ ∀ a, a < σ.2.1 → σ.1 a = none → σ'.1 a = none
theorem q_kp.rf (σ : q_H) : q_kp σ σ := ⟨Nat.le_refl _, fun _ _ h => h⟩
theorem q_kp.tr {a b c : q_H} (h : q_kp a b) (k : q_kp b c) : q_kp a c := ⟨Nat.le_trans h.1 k.1, fun q hq h0 => k.2 q (Nat.lt_of_lt_of_le hq h.1) (h.2 q hq h0)⟩
theorem q_kp.mk (σ : q_H) (t : Nat) (vs : List Value) : q_kp σ (q_mk σ t vs) := ⟨Nat.le_succ _, fun a ha h => by
  show (if a = σ.2.1 then some (t, vs) else σ.1 a) = none
  rw [if_neg (Nat.ne_of_lt ha)]; exact h⟩
theorem q_kp.sf {σ σ1 : q_H} {t a k : Nat} {v : Value} (h : q_sf σ t a k v = some σ1) : q_kp σ σ1 := by
  obtain ⟨vs, h1, -, -, rfl⟩ := q_sf_some h
  refine ⟨Nat.le_refl _, fun b hb h0 => ?_⟩
  show (if b = a then some (t, vs.set k v) else σ.1 b) = none
  by_cases e : b = a
  · subst e; rw [h1] at h0; cases h0
  · rw [if_neg e]; exact h0
theorem q_kp.sa {σ σ1 : q_H} {t a : Nat} {i : Int32} {v : Value} (h : q_sa σ t a i v = some σ1) : q_kp σ σ1 := by
  unfold q_sa at h
  by_cases hi : i < 0
  · rw [if_pos hi] at h; cases h
  · rw [if_neg hi] at h; exact q_kp.sf h
section
variable {fm : Value} {Ms : Nat → Option q_M} {C : Nat → List Value → q_H → q_O → q_H → Prop} {d : Nat} {M : q_M}
theorem q_one_kp (hC : ∀ z as σ w σ1, C z as σ w σ1 → q_kp σ σ1) {r : q_R} {K : Nat → q_L → List Value → q_H → Prop} {ls : q_L} {st : List Value} {σ : q_H} {o : q_O} {σ' : q_H} (hK : ∀ pc l t σ1, K pc l t σ1 → q_kp σ1 σ') (h : q_one fm Ms C d M r K ls st σ o σ') : q_kp σ σ' := by
  obtain ⟨pc, i, nx, a1, a2, z⟩ := r
  cases i with
  | putfield _ =>
    obtain ⟨_, _, _, _, _, σ1, _, _, _, _, _, h1, h2⟩ := h
    exact (q_kp.sf h1).tr (hK _ _ _ _ h2)
  | iastore | lastore =>
    obtain ⟨_, _, _, _, σ1, _, h1, h2⟩ := h
    exact (q_kp.sa h1).tr (hK _ _ _ _ h2)
  | bastore | castore =>
    obtain ⟨_, _, _, _, σ1, _, _, h1, h2⟩ := h
    exact (q_kp.sa h1).tr (hK _ _ _ _ h2)
  | aastore =>
    obtain ⟨_, _, _, _, σ1, _, _, _, h1, h2⟩ := h
    exact (q_kp.sa h1).tr (hK _ _ _ _ h2)
  | newarray _ =>
    obtain ⟨_, _, _, _, _, _, _, h2⟩ := h
    exact (q_kp.mk _ _ _).tr (hK _ _ _ _ h2)
  | anewarray _ =>
    obtain ⟨_, _, _, _, _, h2⟩ := h
    exact (q_kp.mk _ _ _).tr (hK _ _ _ _ h2)
  | multianewarray _ _ =>
    obtain ⟨_, _, _, _, _, _, h2⟩ := h
    exact (q_kp.mk _ _ _).tr ((q_kp.mk _ _ _).tr ((q_kp.mk _ _ _).tr ((q_kp.mk _ _ _).tr ((q_kp.mk _ _ _).tr (hK _ _ _ _ h2)))))
  | new _ =>
    rcases h with ⟨_, _, _, h2⟩ | ⟨_, _, _, _, _, h2⟩
    · exact (q_kp.mk _ _ _).tr (hK _ _ _ _ h2)
    · rw [h2]; exact ⟨Nat.le_succ _, fun _ _ h => h⟩
  | invokespecial _ =>
    rcases h with ⟨_, _, _, _, _, h2⟩ | ⟨_, _, _, _, σ1, _, _, _, _, _, h1, h2⟩
    · exact hK _ _ _ _ h2
    · exact (hC _ _ _ _ _ h1).tr (hK _ _ _ _ h2)
  | invokestatic _ =>
    rcases h with ⟨_, _, _, _, _, _, h2⟩ | ⟨_, _, _, _, _, _, h2⟩ | ⟨_, _, _, _, _, h2⟩ | ⟨_, _, _, _, _, h2⟩ | ⟨_, _, _, _, _, _, h2⟩ | ⟨_, _, _, _, σ1, _, _, _, _, h1, h2⟩
    · exact hK _ _ _ _ h2
    · exact hK _ _ _ _ h2
    · exact hK _ _ _ _ h2
    · exact hK _ _ _ _ h2
    · exact hK _ _ _ _ h2
    · exact (hC _ _ _ _ _ h1).tr (hK _ _ _ _ h2)
  | invokevirtual _ =>
    obtain ⟨_, _, _, _, σ1, _, _, _, _, _, h1, h2⟩ := h
    rcases h2 with ⟨_, _, h2⟩ | ⟨_, _, _, _, _, _, _, _, _, _, _, _, h2⟩
    · exact (hC _ _ _ _ _ h1).tr (hK _ _ _ _ h2)
    · exact (hC _ _ _ _ _ h1).tr (hK _ _ _ _ h2)
  | ifnull _ | ifnonnull _ =>
    obtain ⟨_, _, _, h⟩ := h
    rcases h with ⟨_, h⟩ | ⟨_, h⟩ <;> exact hK _ _ _ _ h
  | ireturn | lreturn =>
    obtain ⟨_, _, _, _, h⟩ := h
    rw [h]; exact q_kp.rf _
  | areturn =>
    obtain ⟨_, _, _, _, _, h⟩ := h
    rw [h]; exact q_kp.rf _
  | return_ =>
    obtain ⟨_, _, _, h⟩ := h
    rw [h]; exact q_kp.rf _
  | aconst_null | iconst _ | lconst _ | bipush _ | sipush _ | ldc _ | ldc2_w _ | getstatic _ | goto _ => exact hK _ _ _ _ h
  | iload _ | iload_n _ | lload _ | lload_n _ =>
    obtain ⟨_, _, h⟩ := h
    exact hK _ _ _ _ h
  | aload _ | aload_n _ | iinc _ _ =>
    obtain ⟨_, _, _, h⟩ := h
    exact hK _ _ _ _ h
  | istore _ | istore_n _ | lstore _ | lstore_n _ =>
    obtain ⟨_, _, _, _, _, h⟩ := h
    exact hK _ _ _ _ h
  | astore _ | astore_n _ =>
    obtain ⟨_, _, _, _, _, _, h⟩ := h
    exact hK _ _ _ _ h
  | pop | dup =>
    obtain ⟨_, _, _, _, h⟩ := h
    exact hK _ _ _ _ h
  | dup2 =>
    obtain ⟨_, _, _, _, _, _, h⟩ := h
    exact hK _ _ _ _ h
  | iadd | isub | imul | iand | ior | ishl | ishr | ladd | lsub | lmul | land | lor | lshl | lushr | lcmp | if_icmp _ _ =>
    obtain ⟨_, _, _, _, h⟩ := h
    exact hK _ _ _ _ h
  | idiv | irem | ldiv | lrem =>
    obtain ⟨_, _, _, _, _, h⟩ := h
    exact hK _ _ _ _ h
  | ineg | lneg | i2l | l2i | i2c | i2b | ifCond _ _ =>
    obtain ⟨_, _, _, h⟩ := h
    exact hK _ _ _ _ h
  | tableswitch _ _ _ _ =>
    obtain ⟨_, _, _, _, _, _, h⟩ := h
    exact hK _ _ _ _ h
  | getfield _ =>
    obtain ⟨_, _, _, _, _, h⟩ := h
    exact hK _ _ _ _ h
  | iaload | laload | caload =>
    obtain ⟨_, _, _, _, _, _, h⟩ := h
    exact hK _ _ _ _ h
  | baload =>
    obtain ⟨_, _, _, _, _, _, _, h⟩ := h
    exact hK _ _ _ _ h
  | aaload =>
    obtain ⟨_, _, _, _, _, _, _, _, h⟩ := h
    exact hK _ _ _ _ h
  | arraylength =>
    obtain ⟨_, _, _, _, _, _, h⟩ := h
    exact hK _ _ _ _ h
  | _ => exact False.elim h
theorem q_run_kp (hC : ∀ z as σ w σ1, C z as σ w σ1 → q_kp σ σ1) {o : q_O} {σ' : q_H} : ∀ {n pc : Nat} {ls : q_L} {st : List Value} {σ : q_H}, q_run fm Ms C d M o σ' n pc ls st σ → q_kp σ σ'
  | 0, _, _, _, _, h => False.elim h
  | n + 1, _, _, _, _, h => by
    obtain ⟨r, ls0, -, -, h⟩ := h
    exact q_one_kp hC (fun _ _ _ _ hk => q_run_kp hC hk) h
end
theorem q_Rel_kp {fm : Value} {Ms : Nat → Option q_M} : ∀ {d y : Nat} {as : List Value} {σ : q_H} {o : q_O} {σ' : q_H}, q_Rel fm Ms d y as σ o σ' → q_kp σ σ'
  | 0, _, _, _, _, _, h => False.elim h
  | d + 1, _, _, _, _, _, h => by
    obtain ⟨M, n, -, -, h⟩ := h
    exact q_run_kp (fun _ _ _ _ _ hk => q_Rel_kp hk) h
/-- more cells: where σ has none, g's -/
def q_pt (g : Nat → Option q_C) (σ : q_H) : q_H := (fun q => match σ.1 q with | some x => some x | none => g q, σ.2)
section
variable {g : Nat → Option q_C} {σ σ1 : q_H}
theorem q_pt_at {a : Nat} {c : q_C} (h : σ.1 a = some c) : (q_pt g σ).1 a = some c := by
  show (match σ.1 a with | some x => some x | none => g a) = _
  rw [h]
theorem q_pt_no {a : Nat} (h : σ.1 a = none) : (q_pt g σ).1 a = g a := by
  show (match σ.1 a with | some x => some x | none => g a) = _
  rw [h]
theorem q_ob_pt {t a : Nat} {vs : List Value} (h : q_ob σ t a = some vs) : q_ob (q_pt g σ) t a = some vs := q_ob_some.mpr (q_pt_at (q_ob_some.mp h))
theorem q_gf_pt {t a k : Nat} {v : Value} (h : q_gf σ t a k = some v) : q_gf (q_pt g σ) t a k = some v := by
  obtain ⟨vs, h1, h2⟩ := q_gf_some h
  unfold q_gf
  rw [q_ob_some.mpr (q_pt_at h1)]; exact h2
theorem q_ga_pt {t a : Nat} {i : Int32} {v : Value} (h : q_ga σ t a i = some v) : q_ga (q_pt g σ) t a i = some v := by
  unfold q_ga at h ⊢
  by_cases hi : i < 0
  · rw [if_pos hi] at h; cases h
  · rw [if_neg hi] at h ⊢; exact q_gf_pt h
theorem q_up_pt (a : Nat) (c : q_C) : q_up (q_pt g σ) a c = q_pt g (q_up σ a c) := by
  refine Prod.ext (funext fun q => ?_) rfl
  show (if q = a then some c else match σ.1 q with | some x => some x | none => g q) = match (if q = a then some c else σ.1 q) with | some x => some x | none => g q
  by_cases e : q = a
  · rw [if_pos e, if_pos e]
  · rw [if_neg e, if_neg e]
theorem q_mk_pt (t : Nat) (vs : List Value) : q_mk (q_pt g σ) t vs = q_pt g (q_mk σ t vs) := by
  refine Prod.ext (funext fun q => ?_) rfl
  show (if q = σ.2.1 then some (t, vs) else match σ.1 q with | some x => some x | none => g q) = match (if q = σ.2.1 then some (t, vs) else σ.1 q) with | some x => some x | none => g q
  by_cases e : q = σ.2.1
  · rw [if_pos e, if_pos e]
  · rw [if_neg e, if_neg e]; rfl
theorem q_sf_pt {t a k : Nat} {v : Value} (h : q_sf σ t a k v = some σ1) : q_sf (q_pt g σ) t a k v = some (q_pt g σ1) := by
  obtain ⟨vs, h1, h2, h3, rfl⟩ := q_sf_some h
  unfold q_sf
  rw [q_ob_some.mpr (q_pt_at h1), Option.bind_some, if_pos ⟨h2, h3⟩, q_up_pt]
theorem q_sa_pt {t a : Nat} {i : Int32} {v : Value} (h : q_sa σ t a i v = some σ1) : q_sa (q_pt g σ) t a i v = some (q_pt g σ1) := by
  unfold q_sa at h ⊢
  by_cases hi : i < 0
  · rw [if_pos hi] at h; cases h
  · rw [if_neg hi] at h ⊢; exact q_sf_pt h
end
section
variable {g : Nat → Option q_C} {fm : Value} {Ms : Nat → Option q_M} {C : Nat → List Value → q_H → q_O → q_H → Prop} {d : Nat} {M : q_M}
theorem q_one_pt (hC : ∀ z as σ w σ1, C z as σ w σ1 → C z as (q_pt g σ) w (q_pt g σ1)) {r : q_R} {K K' : Nat → q_L → List Value → q_H → Prop} {ls : q_L} {st : List Value} {σ : q_H} {o : q_O} {σ' : q_H} (hK : ∀ pc l t σ1, K pc l t σ1 → K' pc l t (q_pt g σ1)) (h : q_one fm Ms C d M r K ls st σ o σ') : q_one fm Ms C d M r K' ls st (q_pt g σ) o (q_pt g σ') := by
  obtain ⟨pc, i, nx, a1, a2, z⟩ := r
  cases i with
  | putfield _ =>
    obtain ⟨a, v, t, ty, f, σ1, e1, e2, e3, e4, e5, h1, h2⟩ := h
    exact ⟨a, v, t, ty, f, _, e1, e2, e3, e4, e5, q_sf_pt h1, hK _ _ _ _ h2⟩
  | iastore | lastore =>
    obtain ⟨a, i, x, t, σ1, e1, h1, h2⟩ := h
    exact ⟨a, i, x, t, _, e1, q_sa_pt h1, hK _ _ _ _ h2⟩
  | bastore | castore =>
    obtain ⟨a, i, x, t, σ1, e1, e2, h1, h2⟩ := h
    exact ⟨a, i, x, t, _, e1, e2, q_sa_pt h1, hK _ _ _ _ h2⟩
  | aastore =>
    obtain ⟨a, i, v, t, σ1, e1, e2, e3, h1, h2⟩ := h
    refine ⟨a, i, v, t, _, e1, e2, ?_, q_sa_pt h1, hK _ _ _ _ h2⟩
    rcases e3 with e3 | ⟨b, vs, e3, e4⟩
    · exact Or.inl e3
    · exact Or.inr ⟨b, vs, e3, q_pt_at e4⟩
  | newarray _ =>
    obtain ⟨n, t, ty, e1, e2, e3, e4, h2⟩ := h
    refine ⟨n, t, ty, e1, e2, e3, e4, ?_⟩
    rw [q_mk_pt]; exact hK _ _ _ _ h2
  | anewarray _ =>
    obtain ⟨n, t, e1, e2, e3, h2⟩ := h
    refine ⟨n, t, e1, e2, e3, ?_⟩
    rw [q_mk_pt]; exact hK _ _ _ _ h2
  | multianewarray _ _ =>
    obtain ⟨n, k, t, e1, e2, e3, h2⟩ := h
    refine ⟨n, k, t, e1, e2, e3, ?_⟩
    rw [q_mk_pt, q_mk_pt, q_mk_pt, q_mk_pt, q_mk_pt]; exact hK _ _ _ _ h2
  | new _ =>
    rcases h with ⟨e1, vs, e2, h2⟩ | ⟨e1, e2, e3, e4, e5, h2⟩
    · refine Or.inl ⟨e1, vs, e2, ?_⟩
      rw [q_mk_pt]; exact hK _ _ _ _ h2
    · exact Or.inr ⟨e1, e2, e3, e4, e5, by rw [h2]; rfl⟩
  | invokespecial _ =>
    rcases h with ⟨e1, a, t, e2, e3, h2⟩ | ⟨z, as, t, v, σ1, e1, e2, e3, e4, e5, h1, h2⟩
    · exact Or.inl ⟨e1, a, t, e2, e3, hK _ _ _ _ h2⟩
    · exact Or.inr ⟨z, as, t, v, _, e1, e2, e3, e4, e5, hC _ _ _ _ _ h1, hK _ _ _ _ h2⟩
  | invokestatic _ =>
    rcases h with ⟨e1, x, y, t, e2, e3, h2⟩ | ⟨e1, x, y, t, e2, e3, h2⟩ | ⟨e1, x, t, e2, e3, h2⟩ | ⟨e1, x, t, e2, e3, h2⟩ | ⟨e1, x, y, t, e2, e3, h2⟩ | ⟨z, as, t, v, σ1, e1, e2, e3, e4, h1, h2⟩
    · exact Or.inl ⟨e1, x, y, t, e2, e3, hK _ _ _ _ h2⟩
    · exact Or.inr (Or.inl ⟨e1, x, y, t, e2, e3, hK _ _ _ _ h2⟩)
    · exact Or.inr (Or.inr (Or.inl ⟨e1, x, t, e2, e3, hK _ _ _ _ h2⟩))
    · exact Or.inr (Or.inr (Or.inr (Or.inl ⟨e1, x, t, e2, e3, hK _ _ _ _ h2⟩)))
    · exact Or.inr (Or.inr (Or.inr (Or.inr (Or.inl ⟨e1, x, y, t, e2, e3, hK _ _ _ _ h2⟩))))
    · exact Or.inr (Or.inr (Or.inr (Or.inr (Or.inr ⟨z, as, t, v, _, e1, e2, e3, e4, hC _ _ _ _ _ h1, hK _ _ _ _ h2⟩))))
  | invokevirtual _ =>
    obtain ⟨z, as, t, w, σ1, e1, e2, e3, e4, ⟨a, c, e5, e6, e7⟩, h1, h2⟩ := h
    refine ⟨z, as, t, w, _, e1, e2, e3, e4, ⟨a, c, e5, q_pt_at e6, e7⟩, hC _ _ _ _ _ h1, ?_⟩
    rcases h2 with ⟨v, f1, h2⟩ | ⟨q, h, k, nx, n1, n2, z, f1, f2, f3, f4, f5, h2⟩
    · exact Or.inl ⟨v, f1, hK _ _ _ _ h2⟩
    · exact Or.inr ⟨q, h, k, nx, n1, n2, z, f1, f2, f3, f4, f5, hK _ _ _ _ h2⟩
  | ifnull _ | ifnonnull _ =>
    obtain ⟨v, t, e1, h⟩ := h
    refine ⟨v, t, e1, ?_⟩
    rcases h with ⟨f1, h⟩ | ⟨f1, h⟩
    · exact Or.inl ⟨f1, hK _ _ _ _ h⟩
    · exact Or.inr ⟨f1, hK _ _ _ _ h⟩
  | ireturn | lreturn =>
    obtain ⟨x, e1, e2, e3, h⟩ := h
    exact ⟨x, e1, e2, e3, by rw [h]⟩
  | areturn =>
    obtain ⟨x, e1, e2, e3, e4, h⟩ := h
    exact ⟨x, e1, e2, e3, e4, by rw [h]⟩
  | return_ =>
    obtain ⟨e1, e2, e3, h⟩ := h
    exact ⟨e1, e2, e3, by rw [h]⟩
  | aconst_null | iconst _ | lconst _ | bipush _ | sipush _ | ldc _ | ldc2_w _ | getstatic _ | goto _ => exact hK _ _ _ _ h
  | iload _ | iload_n _ | lload _ | lload_n _ =>
    obtain ⟨x, e1, h⟩ := h
    exact ⟨x, e1, hK _ _ _ _ h⟩
  | aload _ | aload_n _ | iinc _ _ =>
    obtain ⟨x, e1, e2, h⟩ := h
    exact ⟨x, e1, e2, hK _ _ _ _ h⟩
  | istore _ | istore_n _ | lstore _ | lstore_n _ =>
    obtain ⟨x, t, e1, e2, e3, h⟩ := h
    exact ⟨x, t, e1, e2, e3, hK _ _ _ _ h⟩
  | astore _ | astore_n _ =>
    obtain ⟨x, t, e1, e2, e3, e4, h⟩ := h
    exact ⟨x, t, e1, e2, e3, e4, hK _ _ _ _ h⟩
  | pop | dup =>
    obtain ⟨x, t, e1, e2, h⟩ := h
    exact ⟨x, t, e1, e2, hK _ _ _ _ h⟩
  | dup2 =>
    obtain ⟨x, y, t, e1, e2, e3, h⟩ := h
    exact ⟨x, y, t, e1, e2, e3, hK _ _ _ _ h⟩
  | iadd | isub | imul | iand | ior | ishl | ishr | ladd | lsub | lmul | land | lor | lshl | lushr | lcmp | if_icmp _ _ =>
    obtain ⟨x, y, t, e1, h⟩ := h
    exact ⟨x, y, t, e1, hK _ _ _ _ h⟩
  | idiv | irem | ldiv | lrem =>
    obtain ⟨x, y, t, e1, e2, h⟩ := h
    exact ⟨x, y, t, e1, e2, hK _ _ _ _ h⟩
  | ineg | lneg | i2l | l2i | i2c | i2b | ifCond _ _ =>
    obtain ⟨x, t, e1, h⟩ := h
    exact ⟨x, t, e1, hK _ _ _ _ h⟩
  | tableswitch _ _ _ _ =>
    obtain ⟨x, t, e1, tg, e2, e3, h⟩ := h
    exact ⟨x, t, e1, tg, e2, e3, hK _ _ _ _ h⟩
  | getfield _ =>
    obtain ⟨a, t, v, e1, e2, h⟩ := h
    exact ⟨a, t, v, e1, q_gf_pt e2, hK _ _ _ _ h⟩
  | iaload | laload | caload =>
    obtain ⟨a, i, t, v, e1, e2, h⟩ := h
    exact ⟨a, i, t, v, e1, q_ga_pt e2, hK _ _ _ _ h⟩
  | baload =>
    obtain ⟨a, i, t, v, e1, e2, e3, h⟩ := h
    exact ⟨a, i, t, v, e1, e2, q_ga_pt e3, hK _ _ _ _ h⟩
  | aaload =>
    obtain ⟨a, i, t, v, e1, e2, e3, e4, h⟩ := h
    exact ⟨a, i, t, v, e1, e2, e3, q_ga_pt e4, hK _ _ _ _ h⟩
  | arraylength =>
    obtain ⟨a, t, c, e1, e2, e3, h⟩ := h
    exact ⟨a, t, c, e1, q_pt_at e2, e3, hK _ _ _ _ h⟩
  | _ => exact False.elim h
theorem q_run_pt (hC : ∀ z as σ w σ1, C z as σ w σ1 → C z as (q_pt g σ) w (q_pt g σ1)) {o : q_O} {σ' : q_H} : ∀ {n pc : Nat} {ls : q_L} {st : List Value} {σ : q_H}, q_run fm Ms C d M o σ' n pc ls st σ → q_run fm Ms C d M o (q_pt g σ') n pc ls st (q_pt g σ)
  | 0, _, _, _, _, h => False.elim h
  | n + 1, _, _, _, _, h => by
    obtain ⟨r, ls0, h1, h2, h⟩ := h
    exact ⟨r, ls0, h1, h2, q_one_pt hC (fun _ _ _ _ hk => q_run_pt hC hk) h⟩
end
theorem q_Rel_pt {g : Nat → Option q_C} {fm : Value} {Ms : Nat → Option q_M} : ∀ {d y : Nat} {as : List Value} {σ : q_H} {o : q_O} {σ' : q_H}, q_Rel fm Ms d y as σ o σ' → q_Rel fm Ms d y as (q_pt g σ) o (q_pt g σ')
  | 0, _, _, _, _, _, h => False.elim h
  | d + 1, _, _, _, _, _, h => by
    obtain ⟨M, n, h1, h2, h⟩ := h
    exact ⟨M, n, h1, h2, q_run_pt (fun _ _ _ _ _ hk => q_Rel_pt hk) h⟩
