/-! The small machine only makes; what it made stays. -/
def q_lt (σ σ' : q_H) : Prop := σ.2.1 ≤ σ'.2.1 ∧ σ.2.2 ≤ σ'.2.2
theorem q_lt.rf (σ : q_H) : q_lt σ σ := ⟨Nat.le_refl _, Nat.le_refl _⟩
theorem q_lt.tr {a b c : q_H} (h : q_lt a b) (k : q_lt b c) : q_lt a c := ⟨Nat.le_trans h.1 k.1, Nat.le_trans h.2 k.2⟩
theorem q_lt.mk (σ : q_H) (t : Nat) (vs : List Value) : q_lt σ (q_mk σ t vs) := ⟨Nat.le_succ _, Nat.le_add_right _ _⟩
theorem q_lt.sf {σ σ1 : q_H} {t a k : Nat} {v : Value} (h : q_sf σ t a k v = some σ1) : q_lt σ σ1 := by
  obtain ⟨vs, -, -, -, rfl⟩ := q_sf_some h
  exact q_lt.rf _
theorem q_lt.sa {σ σ1 : q_H} {t a : Nat} {i : Int32} {v : Value} (h : q_sa σ t a i v = some σ1) : q_lt σ σ1 := by
  obtain ⟨-, vs, -, -, -, rfl⟩ := q_sa_some h
  exact q_lt.rf _
section
variable {fm : Value} {Ms : Nat → Option q_M} {C : Nat → List Value → q_H → q_O → q_H → Prop} {d : Nat} {M : q_M}
theorem q_one_mono (hC : ∀ z as σ w σ1, C z as σ w σ1 → q_lt σ σ1) {r : q_R} {K : Nat → q_L → List Value → q_H → Prop} {ls : q_L} {st : List Value} {σ : q_H} {o : q_O} {σ' : q_H} (hK : ∀ pc l t σ1, K pc l t σ1 → q_lt σ1 σ') (h : q_one fm Ms C d M r K ls st σ o σ') : q_lt σ σ' := by
  obtain ⟨pc, i, nx, a1, a2, z⟩ := r
  cases i with
  | putfield _ =>
    obtain ⟨_, _, _, _, _, σ1, _, _, _, _, _, h1, h2⟩ := h
    exact (q_lt.sf h1).tr (hK _ _ _ _ h2)
  | iastore | lastore =>
    obtain ⟨_, _, _, _, σ1, _, h1, h2⟩ := h
    exact (q_lt.sa h1).tr (hK _ _ _ _ h2)
  | bastore | castore =>
    obtain ⟨_, _, _, _, σ1, _, _, h1, h2⟩ := h
    exact (q_lt.sa h1).tr (hK _ _ _ _ h2)
  | aastore =>
    obtain ⟨_, _, _, _, σ1, _, _, _, h1, h2⟩ := h
    exact (q_lt.sa h1).tr (hK _ _ _ _ h2)
  | newarray _ =>
    obtain ⟨_, _, _, _, _, _, _, h2⟩ := h
    exact (q_lt.mk _ _ _).tr (hK _ _ _ _ h2)
  | anewarray _ =>
    obtain ⟨_, _, _, _, _, h2⟩ := h
    exact (q_lt.mk _ _ _).tr (hK _ _ _ _ h2)
  | multianewarray _ _ =>
    obtain ⟨_, _, _, _, _, _, h2⟩ := h
    exact (q_lt.mk _ _ _).tr ((q_lt.mk _ _ _).tr ((q_lt.mk _ _ _).tr ((q_lt.mk _ _ _).tr ((q_lt.mk _ _ _).tr (hK _ _ _ _ h2)))))
  | new _ =>
    rcases h with ⟨_, _, _, h2⟩ | ⟨_, _, _, _, _, h2⟩
    · exact (q_lt.mk _ _ _).tr (hK _ _ _ _ h2)
    · rw [h2]; exact ⟨Nat.le_succ _, Nat.le_add_right _ _⟩
  | invokespecial _ =>
    rcases h with ⟨_, _, _, _, _, h2⟩ | ⟨_, _, _, _, σ1, _, _, _, _, _, h1, h2⟩
    · exact hK _ _ _ _ h2
    · exact (hC _ _ _ _ _ h1).tr (hK _ _ _ _ h2)
  | invokestatic _ =>
    rcases h with ⟨_, _, _, _, _, _, h2⟩ | ⟨_, _, _, _, _, _, h2⟩ | ⟨_, _, _, _, _, h2⟩ | ⟨_, _, _, _, _, h2⟩ | ⟨_, _, _, _, _, _, h2⟩ | ⟨_, _, _, _, σ1, _, _, _, _, h1, h2⟩
    · exact hK _ _ _ _ h2
    · exact hK _ _ _ _ h2
    · exact hK _ _ _ _ h2
    · exact hK _ _ _ _ h2
    · exact hK _ _ _ _ h2
    · exact (hC _ _ _ _ _ h1).tr (hK _ _ _ _ h2)
  | invokevirtual _ =>
    obtain ⟨_, _, _, _, σ1, _, _, _, _, _, h1, h2⟩ := h
    rcases h2 with ⟨_, _, h2⟩ | ⟨_, _, _, _, _, _, _, _, _, _, _, _, h2⟩
    · exact (hC _ _ _ _ _ h1).tr (hK _ _ _ _ h2)
    · exact (hC _ _ _ _ _ h1).tr (hK _ _ _ _ h2)
  | ifnull _ | ifnonnull _ =>
    obtain ⟨_, _, _, h⟩ := h
    rcases h with ⟨_, h⟩ | ⟨_, h⟩ <;> exact hK _ _ _ _ h
  | ireturn | lreturn =>
    obtain ⟨_, _, _, _, h⟩ := h
    rw [h]; exact q_lt.rf _
  | areturn =>
    obtain ⟨_, _, _, _, _, h⟩ := h
    rw [h]; exact q_lt.rf _
  | return_ =>
    obtain ⟨_, _, _, h⟩ := h
    rw [h]; exact q_lt.rf _
  | aconst_null | iconst _ | lconst _ | bipush _ | sipush _ | ldc _ | ldc2_w _ | getstatic _ | goto _ => exact hK _ _ _ _ h
  | iload _ | iload_n _ | lload _ | lload_n _ =>
    obtain ⟨_, _, h⟩ := h
    exact hK _ _ _ _ h
  | aload _ | aload_n _ | iinc _ _ =>
    obtain ⟨_, _, _, h⟩ := h
    exact hK _ _ _ _ h
  | istore _ | istore_n _ | lstore _ | lstore_n _ =>
    obtain ⟨_, _, _, _, _, h⟩ := h
    exact hK _ _ _ _ h
  | astore _ | astore_n _ =>
    obtain ⟨_, _, _, _, _, _, h⟩ := h
    exact hK _ _ _ _ h
  | pop | dup =>
    obtain ⟨_, _, _, _, h⟩ := h
    exact hK _ _ _ _ h
  | dup2 =>
    obtain ⟨_, _, _, _, _, _, h⟩ := h
    exact hK _ _ _ _ h
  | iadd | isub | imul | iand | ior | ishl | ishr | ladd | lsub | lmul | land | lor | lshl | lushr | lcmp | if_icmp _ _ =>
    obtain ⟨_, _, _, _, h⟩ := h
    exact hK _ _ _ _ h
  | idiv | irem | ldiv | lrem =>
    obtain ⟨_, _, _, _, _, h⟩ := h
    exact hK _ _ _ _ h
  | ineg | lneg | i2l | l2i | i2c | i2b | ifCond _ _ =>
    obtain ⟨_, _, _, h⟩ := h
    exact hK _ _ _ _ h
  | tableswitch _ _ _ _ =>
    obtain ⟨_, _, _, _, _, _, h⟩ := h
    exact hK _ _ _ _ h
  | getfield _ =>
    obtain ⟨_, _, _, _, _, h⟩ := h
    exact hK _ _ _ _ h
  | iaload | laload | caload =>
    obtain ⟨_, _, _, _, _, _, h⟩ := h
    exact hK _ _ _ _ h
  | baload =>
    obtain ⟨_, _, _, _, _, _, _, h⟩ := h
    exact hK _ _ _ _ h
  | aaload =>
    obtain ⟨_, _, _, _, _, _, _, _, h⟩ := h
    exact hK _ _ _ _ h
  | arraylength =>
    obtain ⟨_, _, _, _, _, _, h⟩ := h
    exact hK _ _ _ _ h
  | _ => exact False.elim h
theorem q_run_mono (hC : ∀ z as σ w σ1, C z as σ w σ1 → q_lt σ σ1) {o : q_O} {σ' : q_H} : ∀ {n pc : Nat} {ls : q_L} {st : List Value} {σ : q_H}, q_run fm Ms C d M o σ' n pc ls st σ → q_lt σ σ'
  | 0, _, _, _, _, h => False.elim h
  | n + 1, _, _, _, _, h => by
    obtain ⟨r, ls0, -, -, h⟩ := h
    exact q_one_mono hC (fun _ _ _ _ hk => q_run_mono hC hk) h
end
theorem q_Rel_mono {fm : Value} {Ms : Nat → Option q_M} : ∀ {d y : Nat} {as : List Value} {σ : q_H} {o : q_O} {σ' : q_H}, q_Rel fm Ms d y as σ o σ' → q_lt σ σ'
  | 0, _, _, _, _, _, h => False.elim h
  | d + 1, _, _, _, _, _, h => by
    obtain ⟨M, n, -, -, h⟩ := h
    exact q_run_mono (fun _ _ _ _ _ hk => q_Rel_mono hk) h
